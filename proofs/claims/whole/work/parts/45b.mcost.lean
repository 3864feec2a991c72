/-! the reference: costs (written by wip/whole/m45.py) -/
section MK
variable {sc : Int × (Int → Int)} {c : mv_C} {h : mv_H} {v : mvt}
set_option maxRecDepth 10000 in
theorem m_numCost (a : Int) (ha : 266 ≤ a ∧ a ≤ 268) {A : lg} (hR : Rw (v a) A) (hI : gI A) (t i q : Int) (hi0 : 0 ≤ i) (hi1 : i < gn A) (ht : gP A i = t) (hq0 : 0 ≤ q) (hq1 : q < xn (gs A t)) (hk : gk A t q = 3) : mv_Cl sc q_Mod_numberCost [(2, 264), (2, a), (0, t), (0, i), (0, q)] c (mH h v) (mv_Ms h v (con A (gL A i) q (glo A t i)) c) := by
  have b1 := hI.1
  have b2 := hI.2.1
  have r0 := hR.1
  have r1 := hR.2.1
  have hlx := gI_l hI hi0 hi1 ht
  have hlR := (hR.2.2.1 i hi0 hi1).1
  have b3 := xn_b (gSok hI hlx.1 hlx.2.1)
  have tb : 0 ≤ t ∧ t < gT A := ⟨hlx.1, hlx.2.1⟩
  have k3x := (gI_k3 hI hi0 hi1 ht hq0 hq1).1.mp hk
  have bg0 := glo_b A t i
  show mv_Ev sc 121 0 [(2, 264), (2, a), (0, t), (0, i), (0, q), (5, 0), (5, 0), (5, 0), (5, 0), (5, 0), (5, 0), (5, 0)] [] c (mH h v) _
  have hK : (mv_m 121).1 = kc_Mod_numberCost := rfl
  refine e_step (pc' := 1) hK rfl rfl rfl ?_
  refine e_step (pc' := 2) hK rfl rfl rfl ?_
  refine e_step (pc' := 3) hK rfl rfl rfl ?_
  refine e_cRS3 (z := 122) (pc' := 6) hK rfl rfl rfl (Nat.le_of_ble_eq_true rfl) (Nat.le_of_ble_eq_true rfl) (m_before a ha hR hI t (by omega) i hi0 (by omega)) (by decide) rfl ?_
  try simp (disch := omega) only [mH_t64, mH_r1, mH_r3, mH_r4, mH_r5, mH_r6, mH_r8, mH_r9, mH_r10, mH_r11, mH_r12, mH_r14, mH_i0, mH_i2, mH_i7, mH_i13, mH_i15, mH_t71, mH_t, mH_lr, mH_l65, mH_l69, mH_l70, mH_l71, mH_l72, mH_l73, mH_l74, mH_l75, mH_c]
  refine e_step (pc' := 8) hK rfl rfl rfl ?_
  try simp only [List.set_cons_zero, List.set_cons_succ]
  refine e_step (pc' := 9) hK rfl rfl rfl ?_
  refine e_step (pc' := 10) hK rfl rfl rfl ?_
  refine e_step (pc' := 11) hK rfl rfl rfl ?_
  refine e_step (pc' := 12) hK rfl rfl rfl ?_
  refine e_cQV4 (z := 123) hK rfl rfl (by first | (simp (disch := omega) only [mH_t64, mH_r1, mH_r3, mH_r4, mH_r5, mH_r6, mH_r8, mH_r9, mH_r10, mH_r11, mH_r12, mH_r14, mH_i0, mH_i2, mH_i7, mH_i13, mH_i15, mH_t71, mH_t, mH_lr, mH_l65, mH_l69, mH_l70, mH_l71, mH_l72, mH_l73, mH_l74, mH_l75, mH_c]; rfl) | (show _ = 2; assumption) | (show _ = 1; assumption) | (show _ = 0; assumption) | (show _ = 3; assumption) | (show _ = 4; assumption)) rfl (Nat.le_of_ble_eq_true rfl) (Nat.le_of_ble_eq_true rfl) (m_cut a ha i 0 ⟨hi0, by omega⟩ (Or.inl rfl) hlx.2.2.1 hlR) ?_
  rintro _ _ _ ⟨rfl, rfl, w, rfl, hw, kw⟩
  refine ⟨by show (0 : Nat) ≠ 4; decide, ?_⟩
  rw [if_neg (by show ¬ (0 : Nat) = 3; decide)]
  try dsimp only
  have ea : w a = v a := hw.1 a (by omega) (by omega) (by omega)
  have pw : Pc w (w a) q i (gL A i) q := Pc_of (o := 0) kw (by rw [ea]; exact hlR) ⟨hi0, by omega⟩ hlx.2.2.1 (Or.inl rfl) hq0 (by omega) (by omega)
  have zw := pw.2.2.2.1
  have hRw : Rw (w a) A := by { rw [ea]; exact hR }
  show mv_Ev _ _ 15 _ _ _ _ _
  refine e_step (pc' := 16) hK rfl rfl rfl ?_
  refine e_step (pc' := 17) hK rfl rfl rfl ?_
  refine e_getR (ci := 4) (k := 11) (pc' := 20) hK rfl (by simp (disch := omega) only [mH_t64, mH_r1, mH_r3, mH_r4, mH_r5, mH_r6, mH_r8, mH_r9, mH_r10, mH_r11, mH_r12, mH_r14, mH_i0, mH_i2, mH_i7, mH_i13, mH_i15, mH_t71, mH_t, mH_lr, mH_l65, mH_l69, mH_l70, mH_l71, mH_l72, mH_l73, mH_l74, mH_l75, mH_c, zw]) rfl rfl (by decide) (by decide) (by (try simp (disch := omega) only [mH_t64, mH_r1, mH_r3, mH_r4, mH_r5, mH_r6, mH_r8, mH_r9, mH_r10, mH_r11, mH_r12, mH_r14, mH_i0, mH_i2, mH_i7, mH_i13, mH_i15, mH_t71, mH_t, mH_lr, mH_l65, mH_l69, mH_l70, mH_l71, mH_l72, mH_l73, mH_l74, mH_l75, mH_c, zw]); omega) rfl ?_
  try simp (disch := omega) only [mH_t64, mH_r1, mH_r3, mH_r4, mH_r5, mH_r6, mH_r8, mH_r9, mH_r10, mH_r11, mH_r12, mH_r14, mH_i0, mH_i2, mH_i7, mH_i13, mH_i15, mH_t71, mH_t, mH_lr, mH_l65, mH_l69, mH_l70, mH_l71, mH_l72, mH_l73, mH_l74, mH_l75, mH_c, zw]
  refine e_step (pc' := 22) hK rfl rfl rfl ?_
  refine e_iald (pc' := 23) hK rfl (by simp (disch := omega) only [mH_t64, mH_r1, mH_r3, mH_r4, mH_r5, mH_r6, mH_r8, mH_r9, mH_r10, mH_r11, mH_r12, mH_r14, mH_i0, mH_i2, mH_i7, mH_i13, mH_i15, mH_t71, mH_t, mH_lr, mH_l65, mH_l69, mH_l70, mH_l71, mH_l72, mH_l73, mH_l74, mH_l75, mH_c, zw]) (by omega) (by (try simp (disch := omega) only [mH_t64, mH_r1, mH_r3, mH_r4, mH_r5, mH_r6, mH_r8, mH_r9, mH_r10, mH_r11, mH_r12, mH_r14, mH_i0, mH_i2, mH_i7, mH_i13, mH_i15, mH_t71, mH_t, mH_lr, mH_l65, mH_l69, mH_l70, mH_l71, mH_l72, mH_l73, mH_l74, mH_l75, mH_c, zw]); omega) rfl ?_
  try simp (disch := omega) only [mH_t64, mH_r1, mH_r3, mH_r4, mH_r5, mH_r6, mH_r8, mH_r9, mH_r10, mH_r11, mH_r12, mH_r14, mH_i0, mH_i2, mH_i7, mH_i13, mH_i15, mH_t71, mH_t, mH_lr, mH_l65, mH_l69, mH_l70, mH_l71, mH_l72, mH_l73, mH_l74, mH_l75, mH_c, zw]
  refine e_step (pc' := 25) hK rfl rfl rfl ?_
  try simp only [List.set_cons_zero, List.set_cons_succ]
  refine e_step (pc' := 26) hK rfl rfl rfl ?_
  refine e_step (pc' := 27) hK rfl rfl rfl ?_
  refine e_step (pc' := 29) hK rfl rfl rfl ?_
  refine e_cRV3 (z := 124) (pc' := 32) hK rfl rfl (by first | (simp (disch := omega) only [mH_t64, mH_r1, mH_r3, mH_r4, mH_r5, mH_r6, mH_r8, mH_r9, mH_r10, mH_r11, mH_r12, mH_r14, mH_i0, mH_i2, mH_i7, mH_i13, mH_i15, mH_t71, mH_t, mH_lr, mH_l65, mH_l69, mH_l70, mH_l71, mH_l72, mH_l73, mH_l74, mH_l75, mH_c, zw]; rfl) | (show _ = 2; assumption) | (show _ = 1; assumption) | (show _ = 0; assumption) | (show _ = 3; assumption) | (show _ = 4; assumption)) rfl (Nat.le_of_ble_eq_true rfl) (Nat.le_of_ble_eq_true rfl) (m_val a ha pw k3x) (by decide) rfl ?_
  try simp (disch := omega) only [mH_t64, mH_r1, mH_r3, mH_r4, mH_r5, mH_r6, mH_r8, mH_r9, mH_r10, mH_r11, mH_r12, mH_r14, mH_i0, mH_i2, mH_i7, mH_i13, mH_i15, mH_t71, mH_t, mH_lr, mH_l65, mH_l69, mH_l70, mH_l71, mH_l72, mH_l73, mH_l74, mH_l75, mH_c, zw]
  refine e_step (pc' := 34) hK rfl rfl rfl ?_
  try simp only [List.set_cons_zero, List.set_cons_succ]
  refine e_step (pc' := 36) hK rfl rfl rfl ?_
  refine e_step (pc' := 39) hK rfl rfl rfl ?_
  refine e_icmp (t := 45) (pc' := 42) hK rfl (by omega) (by omega) (by decide) rfl (fun hb39 => ?_) (fun hb39 => ?_)
  · replace hb39 := cq_ne.1.mp hb39
    have hj0 := hb39
    have hj := (glo_p A t i).resolve_left hj0
    have hljx := gI_l hI hj.1 hj.2.2.1 hj.2.2.2.1
    have hljR := (hR.2.2.1 _ hj.1 hj.2.2.1).1
    have k3j := (gI_k3 hI hj.1 hj.2.2.1 hj.2.2.2.1 hq0 hq1).1.mp hk
    have bj := Pc_b pw
    refine e_step (pc' := 46) hK rfl rfl rfl ?_
    refine e_step (pc' := 47) hK rfl rfl rfl ?_
    refine e_step (pc' := 49) hK rfl rfl rfl ?_
    refine e_step (pc' := 50) hK rfl rfl rfl ?_
    refine e_cQV4 (z := 123) hK rfl rfl (by first | (simp (disch := omega) only [mH_t64, mH_r1, mH_r3, mH_r4, mH_r5, mH_r6, mH_r8, mH_r9, mH_r10, mH_r11, mH_r12, mH_r14, mH_i0, mH_i2, mH_i7, mH_i13, mH_i15, mH_t71, mH_t, mH_lr, mH_l65, mH_l69, mH_l70, mH_l71, mH_l72, mH_l73, mH_l74, mH_l75, mH_c, zw]; rfl) | (show _ = 2; assumption) | (show _ = 1; assumption) | (show _ = 0; assumption) | (show _ = 3; assumption) | (show _ = 4; assumption)) rfl (Nat.le_of_ble_eq_true rfl) (Nat.le_of_ble_eq_true rfl) (m_cut a ha (glo A t i) 0 ⟨hj.1, by omega⟩ (Or.inl rfl) hljx.2.2.1 (by rw [ea]; exact hljR)) ?_
    rintro _ _ _ ⟨rfl, rfl, u, rfl, hu, ku⟩
    refine ⟨by show (0 : Nat) ≠ 4; decide, ?_⟩
    rw [if_neg (by show ¬ (0 : Nat) = 3; decide)]
    try dsimp only
    have eu : u a = v a := (hu.1 a (by omega) (by omega) (by omega)).trans ea
    have pu : Pc u (u a) q (glo A t i) (gL A (glo A t i)) q := Pc_of (o := 0) ku (by rw [eu]; exact hljR) ⟨hj.1, by omega⟩ hljx.2.2.1 (Or.inl rfl) hq0 (by omega) (by omega)
    have zu := pu.2.2.2.1
    have hRu : Rw (u a) A := by { rw [eu]; exact hR }
    show mv_Ev _ _ 53 _ _ _ _ _
    refine e_step (pc' := 54) hK rfl rfl rfl ?_
    refine e_step (pc' := 55) hK rfl rfl rfl ?_
    refine e_step (pc' := 56) hK rfl rfl rfl ?_
    refine e_step (pc' := 58) hK rfl rfl rfl ?_
    refine e_cRV3 (z := 124) (pc' := 61) hK rfl rfl (by first | (simp (disch := omega) only [mH_t64, mH_r1, mH_r3, mH_r4, mH_r5, mH_r6, mH_r8, mH_r9, mH_r10, mH_r11, mH_r12, mH_r14, mH_i0, mH_i2, mH_i7, mH_i13, mH_i15, mH_t71, mH_t, mH_lr, mH_l65, mH_l69, mH_l70, mH_l71, mH_l72, mH_l73, mH_l74, mH_l75, mH_c, zw, zu]; rfl) | (show _ = 2; assumption) | (show _ = 1; assumption) | (show _ = 0; assumption) | (show _ = 3; assumption) | (show _ = 4; assumption)) rfl (Nat.le_of_ble_eq_true rfl) (Nat.le_of_ble_eq_true rfl) (m_val a ha pu k3j) (by decide) rfl ?_
    try simp (disch := omega) only [mH_t64, mH_r1, mH_r3, mH_r4, mH_r5, mH_r6, mH_r8, mH_r9, mH_r10, mH_r11, mH_r12, mH_r14, mH_i0, mH_i2, mH_i7, mH_i13, mH_i15, mH_t71, mH_t, mH_lr, mH_l65, mH_l69, mH_l70, mH_l71, mH_l72, mH_l73, mH_l74, mH_l75, mH_c, zw, zu]
    refine e_step (pc' := 63) hK rfl rfl rfl ?_
    try simp only [List.set_cons_zero, List.set_cons_succ]
    have bu := Pc_b pu
    refine e_step (pc' := 64) hK rfl rfl rfl ?_
    refine e_getR (ci := 4) (k := 11) (pc' := 67) hK rfl (by simp (disch := omega) only [mH_t64, mH_r1, mH_r3, mH_r4, mH_r5, mH_r6, mH_r8, mH_r9, mH_r10, mH_r11, mH_r12, mH_r14, mH_i0, mH_i2, mH_i7, mH_i13, mH_i15, mH_t71, mH_t, mH_lr, mH_l65, mH_l69, mH_l70, mH_l71, mH_l72, mH_l73, mH_l74, mH_l75, mH_c, zw, zu]) rfl rfl (by decide) (by decide) (by (try simp (disch := omega) only [mH_t64, mH_r1, mH_r3, mH_r4, mH_r5, mH_r6, mH_r8, mH_r9, mH_r10, mH_r11, mH_r12, mH_r14, mH_i0, mH_i2, mH_i7, mH_i13, mH_i15, mH_t71, mH_t, mH_lr, mH_l65, mH_l69, mH_l70, mH_l71, mH_l72, mH_l73, mH_l74, mH_l75, mH_c, zw, zu]); omega) rfl ?_
    try simp (disch := omega) only [mH_t64, mH_r1, mH_r3, mH_r4, mH_r5, mH_r6, mH_r8, mH_r9, mH_r10, mH_r11, mH_r12, mH_r14, mH_i0, mH_i2, mH_i7, mH_i13, mH_i15, mH_t71, mH_t, mH_lr, mH_l65, mH_l69, mH_l70, mH_l71, mH_l72, mH_l73, mH_l74, mH_l75, mH_c, zw, zu]
    refine e_step (pc' := 69) hK rfl rfl rfl ?_
    refine e_iald (pc' := 70) hK rfl (by simp (disch := omega) only [mH_t64, mH_r1, mH_r3, mH_r4, mH_r5, mH_r6, mH_r8, mH_r9, mH_r10, mH_r11, mH_r12, mH_r14, mH_i0, mH_i2, mH_i7, mH_i13, mH_i15, mH_t71, mH_t, mH_lr, mH_l65, mH_l69, mH_l70, mH_l71, mH_l72, mH_l73, mH_l74, mH_l75, mH_c, zw, zu]) (by omega) (by (try simp (disch := omega) only [mH_t64, mH_r1, mH_r3, mH_r4, mH_r5, mH_r6, mH_r8, mH_r9, mH_r10, mH_r11, mH_r12, mH_r14, mH_i0, mH_i2, mH_i7, mH_i13, mH_i15, mH_t71, mH_t, mH_lr, mH_l65, mH_l69, mH_l70, mH_l71, mH_l72, mH_l73, mH_l74, mH_l75, mH_c, zw, zu]); omega) rfl ?_
    try simp (disch := omega) only [mH_t64, mH_r1, mH_r3, mH_r4, mH_r5, mH_r6, mH_r8, mH_r9, mH_r10, mH_r11, mH_r12, mH_r14, mH_i0, mH_i2, mH_i7, mH_i13, mH_i15, mH_t71, mH_t, mH_lr, mH_l65, mH_l69, mH_l70, mH_l71, mH_l72, mH_l73, mH_l74, mH_l75, mH_c, zw, zu]
    refine e_step (pc' := 72) hK rfl rfl rfl ?_
    refine e_icmp (t := 79) (pc' := 75) hK rfl (by omega) (by omega) (by decide) rfl (fun hb72 => ?_) (fun hb72 => ?_)
    · replace hb72 := cq_ne.1.mp hb72
      refine e_step (pc' := 80) hK rfl rfl rfl ?_
      refine e_step (pc' := 82) hK rfl rfl rfl ?_
      try simp only [List.set_cons_zero, List.set_cons_succ]
      refine e_step (pc' := 83) hK rfl rfl rfl ?_
      refine e_step (pc' := 84) hK rfl rfl rfl ?_
      refine e_step (pc' := 86) hK rfl rfl rfl ?_
      refine e_cRS3 (z := 122) (pc' := 89) hK rfl rfl rfl (Nat.le_of_ble_eq_true rfl) (Nat.le_of_ble_eq_true rfl) (m_before a ha hRu hI t (by omega) (glo A t i) hj.1 (by omega)) (by decide) rfl ?_
      try simp (disch := omega) only [mH_t64, mH_r1, mH_r3, mH_r4, mH_r5, mH_r6, mH_r8, mH_r9, mH_r10, mH_r11, mH_r12, mH_r14, mH_i0, mH_i2, mH_i7, mH_i13, mH_i15, mH_t71, mH_t, mH_lr, mH_l65, mH_l69, mH_l70, mH_l71, mH_l72, mH_l73, mH_l74, mH_l75, mH_c, zw, zu]
      refine e_step (pc' := 91) hK rfl rfl rfl ?_
      try simp only [List.set_cons_zero, List.set_cons_succ]
      refine e_step (pc' := 92) hK rfl rfl rfl ?_
      refine e_step (pc' := 94) hK rfl rfl rfl ?_
      try simp only [List.set_cons_zero, List.set_cons_succ]
      have bg := glo_b A t (glo A t i)
      refine e_step (pc' := 96) hK rfl rfl rfl ?_
      refine e_step (pc' := 99) hK rfl rfl rfl ?_
      refine e_icmp (t := 123) (pc' := 102) hK rfl (by omega) (by omega) (by decide) rfl (fun hb99 => ?_) (fun hb99 => ?_)
      · replace hb99 := cq_eq.1.mp hb99
        refine e_step (pc' := 125) hK rfl rfl rfl ?_
        refine e_if (t := 142) (pc' := 128) hK rfl (by omega) (by decide) rfl (fun hb125 => ?_) (fun hb125 => ?_)
        · replace hb125 := cq_eq.1.mp hb125
          refine e_step (pc' := 144) hK rfl rfl rfl ?_
          refine e_ret hK rfl rfl rfl ?_
          refine ⟨?_, rfl, u, rfl, ms_t hw.1 hu.1⟩
          rw [con_m hj.1 hj.2.2.1 hj.2.2.2.1, if_neg (fun q9 => hb72 q9.1)]
        · replace hb125 := cq_eq.2.mp hb125
          exfalso; first | omega | exact absurd trivial (by assumption)
      · replace hb99 := cq_eq.2.mp hb99
        have hm := (glo_p A t (glo A t i)).resolve_left hb99
        have hlmx := gI_l hI hm.1 hm.2.2.1 hm.2.2.2.1
        have hlmR := (hR.2.2.1 _ hm.1 hm.2.2.1).1
        have k3m := (gI_k3 hI hm.1 hm.2.2.1 hm.2.2.2.1 hq0 hq1).1.mp hk
        refine e_step (pc' := 103) hK rfl rfl rfl ?_
        refine e_step (pc' := 104) hK rfl rfl rfl ?_
        refine e_step (pc' := 106) hK rfl rfl rfl ?_
        refine e_step (pc' := 107) hK rfl rfl rfl ?_
        refine e_cQV4 (z := 123) hK rfl rfl (by first | (simp (disch := omega) only [mH_t64, mH_r1, mH_r3, mH_r4, mH_r5, mH_r6, mH_r8, mH_r9, mH_r10, mH_r11, mH_r12, mH_r14, mH_i0, mH_i2, mH_i7, mH_i13, mH_i15, mH_t71, mH_t, mH_lr, mH_l65, mH_l69, mH_l70, mH_l71, mH_l72, mH_l73, mH_l74, mH_l75, mH_c, zw, zu]; rfl) | (show _ = 2; assumption) | (show _ = 1; assumption) | (show _ = 0; assumption) | (show _ = 3; assumption) | (show _ = 4; assumption)) rfl (Nat.le_of_ble_eq_true rfl) (Nat.le_of_ble_eq_true rfl) (m_cut a ha (glo A t (glo A t i)) 0 ⟨hm.1, by omega⟩ (Or.inl rfl) hlmx.2.2.1 (by rw [eu]; exact hlmR)) ?_
        rintro _ _ _ ⟨rfl, rfl, s, rfl, hs, ks⟩
        refine ⟨by show (0 : Nat) ≠ 4; decide, ?_⟩
        rw [if_neg (by show ¬ (0 : Nat) = 3; decide)]
        try dsimp only
        have es : s a = v a := (hs.1 a (by omega) (by omega) (by omega)).trans eu
        have ps : Pc s (s a) q (glo A t (glo A t i)) (gL A (glo A t (glo A t i))) q := Pc_of (o := 0) ks (by rw [es]; exact hlmR) ⟨hm.1, by omega⟩ hlmx.2.2.1 (Or.inl rfl) hq0 (by omega) (by omega)
        show mv_Ev _ _ 110 _ _ _ _ _
        refine e_step (pc' := 111) hK rfl rfl rfl ?_
        refine e_step (pc' := 113) hK rfl rfl rfl ?_
        refine e_step (pc' := 114) hK rfl rfl rfl ?_
        refine e_step (pc' := 115) hK rfl rfl rfl ?_
        refine e_step (pc' := 117) hK rfl rfl rfl ?_
        refine e_cRV3 (z := 124) (pc' := 120) hK rfl rfl (by first | (simp (disch := omega) only [mH_t64, mH_r1, mH_r3, mH_r4, mH_r5, mH_r6, mH_r8, mH_r9, mH_r10, mH_r11, mH_r12, mH_r14, mH_i0, mH_i2, mH_i7, mH_i13, mH_i15, mH_t71, mH_t, mH_lr, mH_l65, mH_l69, mH_l70, mH_l71, mH_l72, mH_l73, mH_l74, mH_l75, mH_c, zw, zu]; rfl) | (show _ = 2; assumption) | (show _ = 1; assumption) | (show _ = 0; assumption) | (show _ = 3; assumption) | (show _ = 4; assumption)) rfl (Nat.le_of_ble_eq_true rfl) (Nat.le_of_ble_eq_true rfl) (m_val a ha ps k3m) (by decide) rfl ?_
        try simp (disch := omega) only [mH_t64, mH_r1, mH_r3, mH_r4, mH_r5, mH_r6, mH_r8, mH_r9, mH_r10, mH_r11, mH_r12, mH_r14, mH_i0, mH_i2, mH_i7, mH_i13, mH_i15, mH_t71, mH_t, mH_lr, mH_l65, mH_l69, mH_l70, mH_l71, mH_l72, mH_l73, mH_l74, mH_l75, mH_c, zw, zu]
        refine e_step (pc' := 121) hK rfl rfl rfl ?_
        refine e_step (pc' := 123) hK rfl rfl rfl ?_
        try simp only [List.set_cons_zero, List.set_cons_succ]
        refine e_step (pc' := 125) hK rfl rfl rfl ?_
        refine e_if (t := 142) (pc' := 128) hK rfl (by omega) (by decide) rfl (fun hb125 => ?_) (fun hb125 => ?_)
        · replace hb125 := cq_eq.1.mp hb125
          refine e_step (pc' := 144) hK rfl rfl rfl ?_
          refine e_ret hK rfl rfl rfl ?_
          refine ⟨?_, rfl, s, rfl, ms_t hw.1 (ms_t hu.1 hs.1)⟩
          rw [con_m hj.1 hj.2.2.1 hj.2.2.2.1, if_neg (fun q9 => hb72 q9.1)]
        · replace hb125 := cq_eq.2.mp hb125
          exfalso; first | omega | exact absurd trivial (by assumption)
    · replace hb72 := cq_ne.2.mp hb72
      refine e_step (pc' := 76) hK rfl rfl rfl ?_
      refine e_goto (t := 80) hK rfl (by decide) ?_
      refine e_step (pc' := 82) hK rfl rfl rfl ?_
      try simp only [List.set_cons_zero, List.set_cons_succ]
      refine e_step (pc' := 83) hK rfl rfl rfl ?_
      refine e_step (pc' := 84) hK rfl rfl rfl ?_
      refine e_step (pc' := 86) hK rfl rfl rfl ?_
      refine e_cRS3 (z := 122) (pc' := 89) hK rfl rfl rfl (Nat.le_of_ble_eq_true rfl) (Nat.le_of_ble_eq_true rfl) (m_before a ha hRu hI t (by omega) (glo A t i) hj.1 (by omega)) (by decide) rfl ?_
      try simp (disch := omega) only [mH_t64, mH_r1, mH_r3, mH_r4, mH_r5, mH_r6, mH_r8, mH_r9, mH_r10, mH_r11, mH_r12, mH_r14, mH_i0, mH_i2, mH_i7, mH_i13, mH_i15, mH_t71, mH_t, mH_lr, mH_l65, mH_l69, mH_l70, mH_l71, mH_l72, mH_l73, mH_l74, mH_l75, mH_c, zw, zu]
      refine e_step (pc' := 91) hK rfl rfl rfl ?_
      try simp only [List.set_cons_zero, List.set_cons_succ]
      refine e_step (pc' := 92) hK rfl rfl rfl ?_
      refine e_step (pc' := 94) hK rfl rfl rfl ?_
      try simp only [List.set_cons_zero, List.set_cons_succ]
      have bg := glo_b A t (glo A t i)
      refine e_step (pc' := 96) hK rfl rfl rfl ?_
      refine e_step (pc' := 99) hK rfl rfl rfl ?_
      refine e_icmp (t := 123) (pc' := 102) hK rfl (by omega) (by omega) (by decide) rfl (fun hb99 => ?_) (fun hb99 => ?_)
      · replace hb99 := cq_eq.1.mp hb99
        refine e_step (pc' := 125) hK rfl rfl rfl ?_
        refine e_if (t := 142) (pc' := 128) hK rfl (by omega) (by decide) rfl (fun hb125 => ?_) (fun hb125 => ?_)
        · replace hb125 := cq_eq.1.mp hb125
          exfalso; first | omega | exact absurd trivial (by assumption)
        · replace hb125 := cq_eq.2.mp hb125
          have v1 := xv_b3 hlx.2.2.1 k3x
          have v2 := xv_b3 hljx.2.2.1 k3j
          refine e_step (pc' := 130) hK rfl rfl rfl ?_
          refine e_step (pc' := 132) hK rfl rfl rfl ?_
          refine e_step (pc' := 134) hK rfl rfl rfl ?_
          refine e_step (pc' := 135) hK rfl rfl rfl ?_
          refine e_icmp (t := 142) (pc' := 138) hK rfl (by omega) (by omega) (by decide) rfl (fun hb135 => ?_) (fun hb135 => ?_)
          · replace hb135 := cq_ne.1.mp hb135
            refine e_step (pc' := 144) hK rfl rfl rfl ?_
            refine e_ret hK rfl rfl rfl ?_
            refine ⟨?_, rfl, u, rfl, ms_t hw.1 hu.1⟩
            rw [con_m hj.1 hj.2.2.1 hj.2.2.2.1, if_neg (fun q9 => by { have q8 := q9.2; rw [if_pos hb99] at q8; omega })]
          · replace hb135 := cq_ne.2.mp hb135
            refine e_step (pc' := 139) hK rfl rfl rfl ?_
            refine e_goto (t := 144) hK rfl (by decide) ?_
            refine e_ret hK rfl rfl rfl ?_
            refine ⟨?_, rfl, u, rfl, ms_t hw.1 hu.1⟩
            rw [con_m hj.1 hj.2.2.1 hj.2.2.2.1, if_pos ⟨hb72, by { rw [if_pos hb99]; omega }⟩]
      · replace hb99 := cq_eq.2.mp hb99
        have hm := (glo_p A t (glo A t i)).resolve_left hb99
        have hlmx := gI_l hI hm.1 hm.2.2.1 hm.2.2.2.1
        have hlmR := (hR.2.2.1 _ hm.1 hm.2.2.1).1
        have k3m := (gI_k3 hI hm.1 hm.2.2.1 hm.2.2.2.1 hq0 hq1).1.mp hk
        refine e_step (pc' := 103) hK rfl rfl rfl ?_
        refine e_step (pc' := 104) hK rfl rfl rfl ?_
        refine e_step (pc' := 106) hK rfl rfl rfl ?_
        refine e_step (pc' := 107) hK rfl rfl rfl ?_
        refine e_cQV4 (z := 123) hK rfl rfl (by first | (simp (disch := omega) only [mH_t64, mH_r1, mH_r3, mH_r4, mH_r5, mH_r6, mH_r8, mH_r9, mH_r10, mH_r11, mH_r12, mH_r14, mH_i0, mH_i2, mH_i7, mH_i13, mH_i15, mH_t71, mH_t, mH_lr, mH_l65, mH_l69, mH_l70, mH_l71, mH_l72, mH_l73, mH_l74, mH_l75, mH_c, zw, zu]; rfl) | (show _ = 2; assumption) | (show _ = 1; assumption) | (show _ = 0; assumption) | (show _ = 3; assumption) | (show _ = 4; assumption)) rfl (Nat.le_of_ble_eq_true rfl) (Nat.le_of_ble_eq_true rfl) (m_cut a ha (glo A t (glo A t i)) 0 ⟨hm.1, by omega⟩ (Or.inl rfl) hlmx.2.2.1 (by rw [eu]; exact hlmR)) ?_
        rintro _ _ _ ⟨rfl, rfl, s, rfl, hs, ks⟩
        refine ⟨by show (0 : Nat) ≠ 4; decide, ?_⟩
        rw [if_neg (by show ¬ (0 : Nat) = 3; decide)]
        try dsimp only
        have es : s a = v a := (hs.1 a (by omega) (by omega) (by omega)).trans eu
        have ps : Pc s (s a) q (glo A t (glo A t i)) (gL A (glo A t (glo A t i))) q := Pc_of (o := 0) ks (by rw [es]; exact hlmR) ⟨hm.1, by omega⟩ hlmx.2.2.1 (Or.inl rfl) hq0 (by omega) (by omega)
        show mv_Ev _ _ 110 _ _ _ _ _
        refine e_step (pc' := 111) hK rfl rfl rfl ?_
        refine e_step (pc' := 113) hK rfl rfl rfl ?_
        refine e_step (pc' := 114) hK rfl rfl rfl ?_
        refine e_step (pc' := 115) hK rfl rfl rfl ?_
        refine e_step (pc' := 117) hK rfl rfl rfl ?_
        refine e_cRV3 (z := 124) (pc' := 120) hK rfl rfl (by first | (simp (disch := omega) only [mH_t64, mH_r1, mH_r3, mH_r4, mH_r5, mH_r6, mH_r8, mH_r9, mH_r10, mH_r11, mH_r12, mH_r14, mH_i0, mH_i2, mH_i7, mH_i13, mH_i15, mH_t71, mH_t, mH_lr, mH_l65, mH_l69, mH_l70, mH_l71, mH_l72, mH_l73, mH_l74, mH_l75, mH_c, zw, zu]; rfl) | (show _ = 2; assumption) | (show _ = 1; assumption) | (show _ = 0; assumption) | (show _ = 3; assumption) | (show _ = 4; assumption)) rfl (Nat.le_of_ble_eq_true rfl) (Nat.le_of_ble_eq_true rfl) (m_val a ha ps k3m) (by decide) rfl ?_
        try simp (disch := omega) only [mH_t64, mH_r1, mH_r3, mH_r4, mH_r5, mH_r6, mH_r8, mH_r9, mH_r10, mH_r11, mH_r12, mH_r14, mH_i0, mH_i2, mH_i7, mH_i13, mH_i15, mH_t71, mH_t, mH_lr, mH_l65, mH_l69, mH_l70, mH_l71, mH_l72, mH_l73, mH_l74, mH_l75, mH_c, zw, zu]
        refine e_step (pc' := 121) hK rfl rfl rfl ?_
        refine e_step (pc' := 123) hK rfl rfl rfl ?_
        try simp only [List.set_cons_zero, List.set_cons_succ]
        refine e_step (pc' := 125) hK rfl rfl rfl ?_
        refine e_if (t := 142) (pc' := 128) hK rfl (by omega) (by decide) rfl (fun hb125 => ?_) (fun hb125 => ?_)
        · replace hb125 := cq_eq.1.mp hb125
          exfalso; first | omega | exact absurd trivial (by assumption)
        · replace hb125 := cq_eq.2.mp hb125
          have v1 := xv_b3 hlx.2.2.1 k3x
          have v2 := xv_b3 hljx.2.2.1 k3j
          have v3 := xv_b3 hlmx.2.2.1 k3m
          refine e_step (pc' := 130) hK rfl rfl rfl ?_
          refine e_step (pc' := 132) hK rfl rfl rfl ?_
          refine e_step (pc' := 134) hK rfl rfl rfl ?_
          refine e_step (pc' := 135) hK rfl rfl rfl ?_
          refine e_icmp (t := 142) (pc' := 138) hK rfl (by omega) (by omega) (by decide) rfl (fun hb135 => ?_) (fun hb135 => ?_)
          · replace hb135 := cq_ne.1.mp hb135
            refine e_step (pc' := 144) hK rfl rfl rfl ?_
            refine e_ret hK rfl rfl rfl ?_
            refine ⟨?_, rfl, s, rfl, ms_t hw.1 (ms_t hu.1 hs.1)⟩
            rw [con_m hj.1 hj.2.2.1 hj.2.2.2.1, if_neg (fun q9 => by { have q8 := q9.2; rw [if_neg hb99] at q8; omega })]
          · replace hb135 := cq_ne.2.mp hb135
            refine e_step (pc' := 139) hK rfl rfl rfl ?_
            refine e_goto (t := 144) hK rfl (by decide) ?_
            refine e_ret hK rfl rfl rfl ?_
            refine ⟨?_, rfl, s, rfl, ms_t hw.1 (ms_t hu.1 hs.1)⟩
            rw [con_m hj.1 hj.2.2.1 hj.2.2.2.1, if_pos ⟨hb72, by { rw [if_neg hb99]; omega }⟩]
  · replace hb39 := cq_ne.2.mp hb39
    refine e_step (pc' := 44) hK rfl rfl rfl ?_
    refine e_ret hK rfl rfl rfl ?_
    refine ⟨?_, rfl, w, rfl, hw.1⟩
    rw [hb39, con_0]
set_option maxRecDepth 10000 in
theorem m_wordCost1 (a : Int) (ha : 266 ≤ a ∧ a ≤ 268) {A : lg} (hR : Rw (v a) A) (hI : gI A) (t i q : Int) (hi0 : 0 ≤ i) (hi1 : i < gn A) (ht : gP A i = t) (hq0 : 0 ≤ q) (hq1 : q < xn (gs A t)) (hk : gk A t q = 4) : ∀ (m : Nat) (w : mvt) (j : Int), ((j = -9999 ∨ (0 ≤ j ∧ j < m ∧ j < i ∧ gP A j = t)) ∧ Pc w (v a) q i (gL A i) q ∧ ms v w ∧ ∀ k : Int, 0 ≤ k → j < k → k < i → k < gn A → gP A k = t → csm A (gL A i) q k = false) → mv_Ev sc 125 16 [(2, 264), (2, a), (0, t), (0, i), (0, q), (0, j)] [] c (mH h w) (mv_Ms h v (if cz A (gL A i) t q i = true then 1 else xz (gL A i) q) c) := by
  intro m
  induction m with
  | zero =>
    intro w j ⟨hj, pw, hw, hf⟩
    have b1 := hI.1
    have b2 := hI.2.1
    have r0 := hR.1
    have r1 := hR.2.1
    have hlx := gI_l hI hi0 hi1 ht
    have hlR := (hR.2.2.1 i hi0 hi1).1
    have b3 := xn_b (gSok hI hlx.1 hlx.2.1)
    have tb : 0 ≤ t ∧ t < gT A := ⟨hlx.1, hlx.2.1⟩
    have k4 := (gI_k3 hI hi0 hi1 ht hq0 hq1).2.1 hk
    have ea : w a = v a := hw a (by omega) (by omega) (by omega)
    have zw := pw.2.2.2.1
    have gb := glo_b A t j
    have hK : (mv_m 125).1 = kc_Mod_wordCost := rfl
    refine e_step (pc' := 18) hK rfl rfl rfl ?_
    refine e_step (pc' := 21) hK rfl rfl rfl ?_
    refine e_icmp (t := 63) (pc' := 24) hK rfl (by first | omega | exact bo_i _) (by first | omega | exact bo_i _) (by decide) rfl (fun hb21 => ?_) (fun hb21 => ?_)
    · replace hb21 := cq_eq.1.mp hb21
      try simp only [bo_0, Bool.not_eq_false] at hb21
      refine e_step (pc' := 64) hK rfl rfl rfl ?_
      refine e_getR (ci := 4) (k := 11) (pc' := 67) hK rfl (by simp (disch := omega) only [mH_t64, mH_r1, mH_r3, mH_r4, mH_r5, mH_r6, mH_r8, mH_r9, mH_r10, mH_r11, mH_r12, mH_r14, mH_i0, mH_i2, mH_i7, mH_i13, mH_i15, mH_t71, mH_t, mH_lr, mH_l65, mH_l69, mH_l70, mH_l71, mH_l72, mH_l73, mH_l74, mH_l75, mH_c, zw]) rfl rfl (by decide) (by decide) (by (try simp (disch := omega) only [mH_t64, mH_r1, mH_r3, mH_r4, mH_r5, mH_r6, mH_r8, mH_r9, mH_r10, mH_r11, mH_r12, mH_r14, mH_i0, mH_i2, mH_i7, mH_i13, mH_i15, mH_t71, mH_t, mH_lr, mH_l65, mH_l69, mH_l70, mH_l71, mH_l72, mH_l73, mH_l74, mH_l75, mH_c, zw]); first | omega | exact bo_i _) rfl ?_
      try simp (disch := omega) only [mH_t64, mH_r1, mH_r3, mH_r4, mH_r5, mH_r6, mH_r8, mH_r9, mH_r10, mH_r11, mH_r12, mH_r14, mH_i0, mH_i2, mH_i7, mH_i13, mH_i15, mH_t71, mH_t, mH_lr, mH_l65, mH_l69, mH_l70, mH_l71, mH_l72, mH_l73, mH_l74, mH_l75, mH_c, zw]
      refine e_step (pc' := 69) hK rfl rfl rfl ?_
      refine e_iald (pc' := 70) hK rfl (by simp (disch := omega) only [mH_t64, mH_r1, mH_r3, mH_r4, mH_r5, mH_r6, mH_r8, mH_r9, mH_r10, mH_r11, mH_r12, mH_r14, mH_i0, mH_i2, mH_i7, mH_i13, mH_i15, mH_t71, mH_t, mH_lr, mH_l65, mH_l69, mH_l70, mH_l71, mH_l72, mH_l73, mH_l74, mH_l75, mH_c, zw]) (by first | omega | exact bo_i _) (by (try simp (disch := omega) only [mH_t64, mH_r1, mH_r3, mH_r4, mH_r5, mH_r6, mH_r8, mH_r9, mH_r10, mH_r11, mH_r12, mH_r14, mH_i0, mH_i2, mH_i7, mH_i13, mH_i15, mH_t71, mH_t, mH_lr, mH_l65, mH_l69, mH_l70, mH_l71, mH_l72, mH_l73, mH_l74, mH_l75, mH_c, zw]); first | omega | exact bo_i _) rfl ?_
      try simp (disch := omega) only [mH_t64, mH_r1, mH_r3, mH_r4, mH_r5, mH_r6, mH_r8, mH_r9, mH_r10, mH_r11, mH_r12, mH_r14, mH_i0, mH_i2, mH_i7, mH_i13, mH_i15, mH_t71, mH_t, mH_lr, mH_l65, mH_l69, mH_l70, mH_l71, mH_l72, mH_l73, mH_l74, mH_l75, mH_c, zw]
      refine e_ret hK rfl rfl rfl ?_
      refine ⟨?_, rfl, w, rfl, hw⟩
      rw [cz_f (fun k k0 k1 k2 k3 => hf k k0 (by omega) k1 k2 k3)]
      rfl
    · replace hb21 := cq_eq.2.mp hb21
      try simp only [bo_0, Bool.not_eq_false] at hb21
      exfalso; first | omega | exact absurd trivial (by assumption) | (first | omega | exact bo_i _)
  | succ m ih =>
    intro w j ⟨hj, pw, hw, hf⟩
    have b1 := hI.1
    have b2 := hI.2.1
    have r0 := hR.1
    have r1 := hR.2.1
    have hlx := gI_l hI hi0 hi1 ht
    have hlR := (hR.2.2.1 i hi0 hi1).1
    have b3 := xn_b (gSok hI hlx.1 hlx.2.1)
    have tb : 0 ≤ t ∧ t < gT A := ⟨hlx.1, hlx.2.1⟩
    have k4 := (gI_k3 hI hi0 hi1 ht hq0 hq1).2.1 hk
    have ea : w a = v a := hw a (by omega) (by omega) (by omega)
    have zw := pw.2.2.2.1
    have gb := glo_b A t j
    have hK : (mv_m 125).1 = kc_Mod_wordCost := rfl
    refine e_step (pc' := 18) hK rfl rfl rfl ?_
    refine e_step (pc' := 21) hK rfl rfl rfl ?_
    refine e_icmp (t := 63) (pc' := 24) hK rfl (by first | omega | exact bo_i _) (by first | omega | exact bo_i _) (by decide) rfl (fun hb21 => ?_) (fun hb21 => ?_)
    · replace hb21 := cq_eq.1.mp hb21
      try simp only [bo_0, Bool.not_eq_false] at hb21
      refine e_step (pc' := 64) hK rfl rfl rfl ?_
      refine e_getR (ci := 4) (k := 11) (pc' := 67) hK rfl (by simp (disch := omega) only [mH_t64, mH_r1, mH_r3, mH_r4, mH_r5, mH_r6, mH_r8, mH_r9, mH_r10, mH_r11, mH_r12, mH_r14, mH_i0, mH_i2, mH_i7, mH_i13, mH_i15, mH_t71, mH_t, mH_lr, mH_l65, mH_l69, mH_l70, mH_l71, mH_l72, mH_l73, mH_l74, mH_l75, mH_c, zw]) rfl rfl (by decide) (by decide) (by (try simp (disch := omega) only [mH_t64, mH_r1, mH_r3, mH_r4, mH_r5, mH_r6, mH_r8, mH_r9, mH_r10, mH_r11, mH_r12, mH_r14, mH_i0, mH_i2, mH_i7, mH_i13, mH_i15, mH_t71, mH_t, mH_lr, mH_l65, mH_l69, mH_l70, mH_l71, mH_l72, mH_l73, mH_l74, mH_l75, mH_c, zw]); first | omega | exact bo_i _) rfl ?_
      try simp (disch := omega) only [mH_t64, mH_r1, mH_r3, mH_r4, mH_r5, mH_r6, mH_r8, mH_r9, mH_r10, mH_r11, mH_r12, mH_r14, mH_i0, mH_i2, mH_i7, mH_i13, mH_i15, mH_t71, mH_t, mH_lr, mH_l65, mH_l69, mH_l70, mH_l71, mH_l72, mH_l73, mH_l74, mH_l75, mH_c, zw]
      refine e_step (pc' := 69) hK rfl rfl rfl ?_
      refine e_iald (pc' := 70) hK rfl (by simp (disch := omega) only [mH_t64, mH_r1, mH_r3, mH_r4, mH_r5, mH_r6, mH_r8, mH_r9, mH_r10, mH_r11, mH_r12, mH_r14, mH_i0, mH_i2, mH_i7, mH_i13, mH_i15, mH_t71, mH_t, mH_lr, mH_l65, mH_l69, mH_l70, mH_l71, mH_l72, mH_l73, mH_l74, mH_l75, mH_c, zw]) (by first | omega | exact bo_i _) (by (try simp (disch := omega) only [mH_t64, mH_r1, mH_r3, mH_r4, mH_r5, mH_r6, mH_r8, mH_r9, mH_r10, mH_r11, mH_r12, mH_r14, mH_i0, mH_i2, mH_i7, mH_i13, mH_i15, mH_t71, mH_t, mH_lr, mH_l65, mH_l69, mH_l70, mH_l71, mH_l72, mH_l73, mH_l74, mH_l75, mH_c, zw]); first | omega | exact bo_i _) rfl ?_
      try simp (disch := omega) only [mH_t64, mH_r1, mH_r3, mH_r4, mH_r5, mH_r6, mH_r8, mH_r9, mH_r10, mH_r11, mH_r12, mH_r14, mH_i0, mH_i2, mH_i7, mH_i13, mH_i15, mH_t71, mH_t, mH_lr, mH_l65, mH_l69, mH_l70, mH_l71, mH_l72, mH_l73, mH_l74, mH_l75, mH_c, zw]
      refine e_ret hK rfl rfl rfl ?_
      refine ⟨?_, rfl, w, rfl, hw⟩
      rw [cz_f (fun k k0 k1 k2 k3 => hf k k0 (by omega) k1 k2 k3)]
      rfl
    · replace hb21 := cq_eq.2.mp hb21
      try simp only [bo_0, Bool.not_eq_false] at hb21
      have hj := hj.resolve_left hb21
      have hljx := gI_l hI hj.1 (by omega) hj.2.2.2
      have hljR := (hR.2.2.1 _ hj.1 (show j < gn A by omega)).1
      refine e_step (pc' := 25) hK rfl rfl rfl ?_
      refine e_step (pc' := 26) hK rfl rfl rfl ?_
      refine e_step (pc' := 28) hK rfl rfl rfl ?_
      refine e_step (pc' := 30) hK rfl rfl rfl ?_
      refine e_cQV4 (z := 123) hK rfl rfl (by first | (simp (disch := omega) only [mH_t64, mH_r1, mH_r3, mH_r4, mH_r5, mH_r6, mH_r8, mH_r9, mH_r10, mH_r11, mH_r12, mH_r14, mH_i0, mH_i2, mH_i7, mH_i13, mH_i15, mH_t71, mH_t, mH_lr, mH_l65, mH_l69, mH_l70, mH_l71, mH_l72, mH_l73, mH_l74, mH_l75, mH_c, zw]; rfl) | (show _ = 2; assumption) | (show _ = 1; assumption) | (show _ = 0; assumption) | (show _ = 3; assumption) | (show _ = 4; assumption)) rfl (Nat.le_of_ble_eq_true rfl) (Nat.le_of_ble_eq_true rfl) (m_cut a ha j 12 ⟨hj.1, by omega⟩ (Or.inr rfl) hljx.2.2.1 (by rw [ea]; exact hljR)) ?_
      rintro _ _ _ ⟨rfl, rfl, u, rfl, hu, ku⟩
      refine ⟨by show (0 : Nat) ≠ 4; decide, ?_⟩
      rw [if_neg (by show ¬ (0 : Nat) = 3; decide)]
      try dsimp only
      have eu : u a = v a := (hu.1 a (by omega) (by omega) (by omega)).trans ea
      have pu : Pc u (u a) q i (gL A i) q := by { rw [eu]; exact Pc_fr pw hu (by omega) }
      have pj : Pc u (u a) (12 + q) j (gL A j) q := Pc_of (o := 12) ku (by rw [eu]; exact hljR) ⟨hj.1, by omega⟩ hljx.2.2.1 (Or.inr rfl) hq0 (by omega) rfl
      show mv_Ev _ _ 33 _ _ _ _ _
      refine e_step (pc' := 34) hK rfl rfl rfl ?_
      refine e_step (pc' := 35) hK rfl rfl rfl ?_
      refine e_step (pc' := 36) hK rfl rfl rfl ?_
      refine e_step (pc' := 38) hK rfl rfl rfl ?_
      refine e_step (pc' := 40) hK rfl rfl rfl ?_
      refine e_step (pc' := 42) hK rfl rfl rfl ?_
      refine e_step (pc' := 43) hK rfl rfl rfl ?_
      refine e_cRV4 (z := 126) (pc' := 46) hK rfl rfl (by first | (simp (disch := omega) only [mH_t64, mH_r1, mH_r3, mH_r4, mH_r5, mH_r6, mH_r8, mH_r9, mH_r10, mH_r11, mH_r12, mH_r14, mH_i0, mH_i2, mH_i7, mH_i13, mH_i15, mH_t71, mH_t, mH_lr, mH_l65, mH_l69, mH_l70, mH_l71, mH_l72, mH_l73, mH_l74, mH_l75, mH_c, zw]; rfl) | (show _ = 2; assumption) | (show _ = 1; assumption) | (show _ = 0; assumption) | (show _ = 3; assumption) | (show _ = 4; assumption)) rfl (Nat.le_of_ble_eq_true rfl) (Nat.le_of_ble_eq_true rfl) (m_same a ha pu pj) (by decide) rfl ?_
      try simp (disch := omega) only [mH_t64, mH_r1, mH_r3, mH_r4, mH_r5, mH_r6, mH_r8, mH_r9, mH_r10, mH_r11, mH_r12, mH_r14, mH_i0, mH_i2, mH_i7, mH_i13, mH_i15, mH_t71, mH_t, mH_lr, mH_l65, mH_l69, mH_l70, mH_l71, mH_l72, mH_l73, mH_l74, mH_l75, mH_c, zw]
      refine e_if (t := 51) (pc' := 49) hK rfl (by first | omega | exact bo_i _) (by decide) rfl (fun hb46 => ?_) (fun hb46 => ?_)
      · replace hb46 := cq_eq.1.mp hb46
        try simp only [bo_0, Bool.not_eq_false] at hb46
        refine e_step (pc' := 52) hK rfl rfl rfl ?_
        refine e_step (pc' := 53) hK rfl rfl rfl ?_
        refine e_step (pc' := 55) hK rfl rfl rfl ?_
        refine e_cRS3 (z := 122) (pc' := 58) hK rfl rfl rfl (Nat.le_of_ble_eq_true rfl) (Nat.le_of_ble_eq_true rfl) (m_before a ha (by rw [eu]; exact hR) hI t (by omega) j hj.1 (by omega)) (by decide) rfl ?_
        try simp (disch := omega) only [mH_t64, mH_r1, mH_r3, mH_r4, mH_r5, mH_r6, mH_r8, mH_r9, mH_r10, mH_r11, mH_r12, mH_r14, mH_i0, mH_i2, mH_i7, mH_i13, mH_i15, mH_t71, mH_t, mH_lr, mH_l65, mH_l69, mH_l70, mH_l71, mH_l72, mH_l73, mH_l74, mH_l75, mH_c, zw]
        refine e_step (pc' := 60) hK rfl rfl rfl ?_
        try simp only [List.set_cons_zero, List.set_cons_succ]
        refine e_goto (t := 16) hK rfl (by decide) ?_
        refine ih u (glo A t j) ⟨?_, by { rw [← eu]; exact pu }, ms_t hw hu.1, fun k k0 k1 k2 k3 k4 => ?_⟩
        · rcases glo_p A t j with g9 | g9
          · exact Or.inl g9
          · exact Or.inr ⟨g9.1, by omega, by omega, g9.2.2.2.1⟩
        · by_cases e1 : k = j
          · subst e1; rw [csm_w (by omega) k0 k3]; exact hb46
          · by_cases e2 : j < k
            · exact hf k k0 e2 k2 k3 k4
            · rcases glo_p A t j with g9 | g9
              · exact absurd k4 (glo_n g9 k k0 (by omega) k3)
              · exact absurd k4 (g9.2.2.2.2 k k1 (by omega) k3)
      · replace hb46 := cq_eq.2.mp hb46
        try simp only [bo_0, Bool.not_eq_false] at hb46
        refine e_step (pc' := 50) hK rfl rfl rfl ?_
        refine e_ret hK rfl rfl rfl ?_
        refine ⟨?_, rfl, u, rfl, ms_t hw hu.1⟩
        rw [if_pos (cz_t hj.1 (by omega) hj.2.2.1 hj.2.2.2 (by rw [csm_w (by omega) hj.1 (by omega)]; exact hb46))]
set_option maxRecDepth 10000 in
theorem m_wordCost (a : Int) (ha : 266 ≤ a ∧ a ≤ 268) {A : lg} (hR : Rw (v a) A) (hI : gI A) (t i q : Int) (hi0 : 0 ≤ i) (hi1 : i < gn A) (ht : gP A i = t) (hq0 : 0 ≤ q) (hq1 : q < xn (gs A t)) (hk : gk A t q = 4) : mv_Cl sc q_Mod_wordCost [(2, 264), (2, a), (0, t), (0, i), (0, q)] c (mH h v) (mv_Ms h v (if cz A (gL A i) t q i = true then 1 else xz (gL A i) q) c) := by
  have b1 := hI.1
  have b2 := hI.2.1
  have r0 := hR.1
  have r1 := hR.2.1
  have hlx := gI_l hI hi0 hi1 ht
  have hlR := (hR.2.2.1 i hi0 hi1).1
  have b3 := xn_b (gSok hI hlx.1 hlx.2.1)
  have tb : 0 ≤ t ∧ t < gT A := ⟨hlx.1, hlx.2.1⟩
  show mv_Ev sc 125 0 [(2, 264), (2, a), (0, t), (0, i), (0, q), (5, 0)] [] c (mH h v) _
  have hK : (mv_m 125).1 = kc_Mod_wordCost := rfl
  refine e_step (pc' := 1) hK rfl rfl rfl ?_
  refine e_step (pc' := 2) hK rfl rfl rfl ?_
  refine e_step (pc' := 3) hK rfl rfl rfl ?_
  refine e_step (pc' := 4) hK rfl rfl rfl ?_
  refine e_cQV4 (z := 123) hK rfl rfl (by first | (simp (disch := omega) only [mH_t64, mH_r1, mH_r3, mH_r4, mH_r5, mH_r6, mH_r8, mH_r9, mH_r10, mH_r11, mH_r12, mH_r14, mH_i0, mH_i2, mH_i7, mH_i13, mH_i15, mH_t71, mH_t, mH_lr, mH_l65, mH_l69, mH_l70, mH_l71, mH_l72, mH_l73, mH_l74, mH_l75, mH_c]; rfl) | (show _ = 2; assumption) | (show _ = 1; assumption) | (show _ = 0; assumption) | (show _ = 3; assumption) | (show _ = 4; assumption)) rfl (Nat.le_of_ble_eq_true rfl) (Nat.le_of_ble_eq_true rfl) (m_cut a ha i 0 ⟨hi0, by omega⟩ (Or.inl rfl) hlx.2.2.1 hlR) ?_
  rintro _ _ _ ⟨rfl, rfl, w, rfl, hw, kw⟩
  refine ⟨by show (0 : Nat) ≠ 4; decide, ?_⟩
  rw [if_neg (by show ¬ (0 : Nat) = 3; decide)]
  try dsimp only
  have ea : w a = v a := hw.1 a (by omega) (by omega) (by omega)
  have pw : Pc w (v a) q i (gL A i) q := Pc_of (o := 0) kw hlR ⟨hi0, by omega⟩ hlx.2.2.1 (Or.inl rfl) hq0 (by omega) (by omega)
  show mv_Ev _ _ 7 _ _ _ _ _
  refine e_step (pc' := 8) hK rfl rfl rfl ?_
  refine e_step (pc' := 9) hK rfl rfl rfl ?_
  refine e_step (pc' := 10) hK rfl rfl rfl ?_
  refine e_step (pc' := 11) hK rfl rfl rfl ?_
  refine e_cRS3 (z := 122) (pc' := 14) hK rfl rfl rfl (Nat.le_of_ble_eq_true rfl) (Nat.le_of_ble_eq_true rfl) (m_before a ha (by rw [ea]; exact hR) hI t (by omega) i hi0 (by omega)) (by decide) rfl ?_
  try simp (disch := omega) only [mH_t64, mH_r1, mH_r3, mH_r4, mH_r5, mH_r6, mH_r8, mH_r9, mH_r10, mH_r11, mH_r12, mH_r14, mH_i0, mH_i2, mH_i7, mH_i13, mH_i15, mH_t71, mH_t, mH_lr, mH_l65, mH_l69, mH_l70, mH_l71, mH_l72, mH_l73, mH_l74, mH_l75, mH_c]
  refine e_step (pc' := 16) hK rfl rfl rfl ?_
  try simp only [List.set_cons_zero, List.set_cons_succ]
  refine m_wordCost1 a ha hR hI t i q hi0 hi1 ht hq0 hq1 hk i.toNat w _ ⟨?_, pw, hw.1, fun k k0 k1 k2 k3 k4 => ?_⟩
  · rcases glo_p A t i with g9 | g9
    · exact Or.inl g9
    · exact Or.inr ⟨g9.1, by omega, by omega, g9.2.2.2.1⟩
  · rcases glo_p A t i with g9 | g9
    · exact absurd k4 (glo_n g9 k k0 k2 k3)
    · exact absurd k4 (g9.2.2.2.2 k k1 k2 k3)
set_option maxRecDepth 10000 in
theorem m_costLine1 (a : Int) (ha : 266 ≤ a ∧ a ≤ 268) {A : lg} (hR : Rw (v a) A) (hI : gI A) (t i : Int) (hi0 : 0 ≤ i) (hi1 : i < gn A) (ht : gP A i = t) : ∀ (m : Nat) (k : Nat) (w : mvt) (a6 : mv_V), (k + m = (xn (gs A t)).toNat ∧ ms v w) → mv_Ev sc 118 15 [(2, 264), (2, a), (0, i), (0, t), (0, 1 + lsum (cop A (gL A i) t i) k), (0, (k : Int)), a6] [] c (mH h w) (mv_Ms h v (col A (gL A i) t i) c) := by
  intro m
  induction m with
  | zero =>
    intro k w a6 ⟨hk, hw⟩
    have b1 := hI.1
    have b2 := hI.2.1
    have r0 := hR.1
    have r1 := hR.2.1
    have hlx := gI_l hI hi0 hi1 ht
    have hlR := (hR.2.2.1 i hi0 hi1).1
    have b3 := xn_b (gSok hI hlx.1 hlx.2.1)
    have tb : 0 ≤ t ∧ t < gT A := ⟨hlx.1, hlx.2.1⟩
    have rt : v a (1052 + 13 * t) = xn (gs A t) := by { rw [gs_S tb.1 tb.2]; exact (hR.2.2.2 t tb.1 tb.2).1 }
    have ew : w a = v a := hw a (by omega) (by omega) (by omega)
    have hRw : Rw (w a) A := by { rw [ew]; exact hR }
    have hK : (mv_m 118).1 = kc_Mod_costOfLine := rfl
    refine e_step (pc' := 17) hK rfl rfl rfl ?_
    refine e_step (pc' := 18) hK rfl rfl rfl ?_
    refine e_step (pc' := 19) hK rfl rfl rfl ?_
    refine e_cRS1 (z := 119) (pc' := 22) hK rfl rfl rfl (Nat.le_of_ble_eq_true rfl) (Nat.le_of_ble_eq_true rfl) (m_tempAt t) (by decide) rfl ?_
    try simp (disch := omega) only [mH_t64, mH_r1, mH_r3, mH_r4, mH_r5, mH_r6, mH_r8, mH_r9, mH_r10, mH_r11, mH_r12, mH_r14, mH_i0, mH_i2, mH_i7, mH_i13, mH_i15, mH_t71, mH_t, mH_lr, mH_l65, mH_l69, mH_l70, mH_l71, mH_l72, mH_l73, mH_l74, mH_l75, mH_c, ew, rt]
    refine e_iald (pc' := 23) hK rfl (by simp (disch := omega) only [mH_t64, mH_r1, mH_r3, mH_r4, mH_r5, mH_r6, mH_r8, mH_r9, mH_r10, mH_r11, mH_r12, mH_r14, mH_i0, mH_i2, mH_i7, mH_i13, mH_i15, mH_t71, mH_t, mH_lr, mH_l65, mH_l69, mH_l70, mH_l71, mH_l72, mH_l73, mH_l74, mH_l75, mH_c, ew, rt]) (by first | omega) (by (try simp (disch := omega) only [mH_t64, mH_r1, mH_r3, mH_r4, mH_r5, mH_r6, mH_r8, mH_r9, mH_r10, mH_r11, mH_r12, mH_r14, mH_i0, mH_i2, mH_i7, mH_i13, mH_i15, mH_t71, mH_t, mH_lr, mH_l65, mH_l69, mH_l70, mH_l71, mH_l72, mH_l73, mH_l74, mH_l75, mH_c, ew, rt]); first | omega) rfl ?_
    try simp (disch := omega) only [mH_t64, mH_r1, mH_r3, mH_r4, mH_r5, mH_r6, mH_r8, mH_r9, mH_r10, mH_r11, mH_r12, mH_r14, mH_i0, mH_i2, mH_i7, mH_i13, mH_i15, mH_t71, mH_t, mH_lr, mH_l65, mH_l69, mH_l70, mH_l71, mH_l72, mH_l73, mH_l74, mH_l75, mH_c, ew, rt]
    refine e_icmp (t := 83) (pc' := 26) hK rfl (by first | omega) (by first | omega) (by decide) rfl (fun hb23 => ?_) (fun hb23 => ?_)
    · replace hb23 := cq_ge.1.mp hb23
      refine e_step (pc' := 85) hK rfl rfl rfl ?_
      refine e_ret hK rfl rfl rfl ?_
      refine ⟨?_, rfl, w, rfl, hw⟩
      unfold col
      rw [hlx.2.2.2.1, show (xn (gs A t)).toNat = k from by omega]
    · replace hb23 := cq_ge.2.mp hb23
      exfalso; first | omega | exact absurd trivial (by assumption) | (first | omega)
  | succ m ih =>
    intro k w a6 ⟨hk, hw⟩
    have b1 := hI.1
    have b2 := hI.2.1
    have r0 := hR.1
    have r1 := hR.2.1
    have hlx := gI_l hI hi0 hi1 ht
    have hlR := (hR.2.2.1 i hi0 hi1).1
    have b3 := xn_b (gSok hI hlx.1 hlx.2.1)
    have tb : 0 ≤ t ∧ t < gT A := ⟨hlx.1, hlx.2.1⟩
    have rt : v a (1052 + 13 * t) = xn (gs A t) := by { rw [gs_S tb.1 tb.2]; exact (hR.2.2.2 t tb.1 tb.2).1 }
    have ew : w a = v a := hw a (by omega) (by omega) (by omega)
    have hRw : Rw (w a) A := by { rw [ew]; exact hR }
    have hK : (mv_m 118).1 = kc_Mod_costOfLine := rfl
    refine e_step (pc' := 17) hK rfl rfl rfl ?_
    refine e_step (pc' := 18) hK rfl rfl rfl ?_
    refine e_step (pc' := 19) hK rfl rfl rfl ?_
    refine e_cRS1 (z := 119) (pc' := 22) hK rfl rfl rfl (Nat.le_of_ble_eq_true rfl) (Nat.le_of_ble_eq_true rfl) (m_tempAt t) (by decide) rfl ?_
    try simp (disch := omega) only [mH_t64, mH_r1, mH_r3, mH_r4, mH_r5, mH_r6, mH_r8, mH_r9, mH_r10, mH_r11, mH_r12, mH_r14, mH_i0, mH_i2, mH_i7, mH_i13, mH_i15, mH_t71, mH_t, mH_lr, mH_l65, mH_l69, mH_l70, mH_l71, mH_l72, mH_l73, mH_l74, mH_l75, mH_c, ew, rt]
    refine e_iald (pc' := 23) hK rfl (by simp (disch := omega) only [mH_t64, mH_r1, mH_r3, mH_r4, mH_r5, mH_r6, mH_r8, mH_r9, mH_r10, mH_r11, mH_r12, mH_r14, mH_i0, mH_i2, mH_i7, mH_i13, mH_i15, mH_t71, mH_t, mH_lr, mH_l65, mH_l69, mH_l70, mH_l71, mH_l72, mH_l73, mH_l74, mH_l75, mH_c, ew, rt]) (by first | omega) (by (try simp (disch := omega) only [mH_t64, mH_r1, mH_r3, mH_r4, mH_r5, mH_r6, mH_r8, mH_r9, mH_r10, mH_r11, mH_r12, mH_r14, mH_i0, mH_i2, mH_i7, mH_i13, mH_i15, mH_t71, mH_t, mH_lr, mH_l65, mH_l69, mH_l70, mH_l71, mH_l72, mH_l73, mH_l74, mH_l75, mH_c, ew, rt]); first | omega) rfl ?_
    try simp (disch := omega) only [mH_t64, mH_r1, mH_r3, mH_r4, mH_r5, mH_r6, mH_r8, mH_r9, mH_r10, mH_r11, mH_r12, mH_r14, mH_i0, mH_i2, mH_i7, mH_i13, mH_i15, mH_t71, mH_t, mH_lr, mH_l65, mH_l69, mH_l70, mH_l71, mH_l72, mH_l73, mH_l74, mH_l75, mH_c, ew, rt]
    refine e_icmp (t := 83) (pc' := 26) hK rfl (by first | omega) (by first | omega) (by decide) rfl (fun hb23 => ?_) (fun hb23 => ?_)
    · replace hb23 := cq_ge.1.mp hb23
      exfalso; first | omega | exact absurd trivial (by assumption) | (first | omega)
    · replace hb23 := cq_ge.2.mp hb23
      have rk := (hR.2.2.2 t tb.1 tb.2).2 k (by omega) (by rw [← gs_S tb.1 tb.2]; omega)
      have kb := gk_i hI tb.1 tb.2 (show (0 : Int) ≤ k by omega) (by omega)
      have k3 := gI_k3 hI hi0 hi1 ht (show (0 : Int) ≤ k by omega) (by omega)
      refine e_step (pc' := 27) hK rfl rfl rfl ?_
      refine e_step (pc' := 28) hK rfl rfl rfl ?_
      refine e_step (pc' := 30) hK rfl rfl rfl ?_
      refine e_cRS3 (z := 120) (pc' := 33) hK rfl rfl rfl (Nat.le_of_ble_eq_true rfl) (Nat.le_of_ble_eq_true rfl) (m_kindOf a ha t (k : Int) (by omega) (by omega)) (by decide) rfl ?_
      try simp (disch := omega) only [mH_t64, mH_r1, mH_r3, mH_r4, mH_r5, mH_r6, mH_r8, mH_r9, mH_r10, mH_r11, mH_r12, mH_r14, mH_i0, mH_i2, mH_i7, mH_i13, mH_i15, mH_t71, mH_t, mH_lr, mH_l65, mH_l69, mH_l70, mH_l71, mH_l72, mH_l73, mH_l74, mH_l75, mH_c, ew, rt, rk]
      refine e_step (pc' := 35) hK rfl rfl rfl ?_
      try simp only [List.set_cons_zero, List.set_cons_succ]
      refine e_step (pc' := 37) hK rfl rfl rfl ?_
      refine e_step (pc' := 39) hK rfl rfl rfl ?_
      refine e_step (pc' := 40) hK rfl rfl rfl ?_
      refine e_icmp (t := 55) (pc' := 43) hK rfl (by first | omega) (by first | omega) (by decide) rfl (fun hb40 => ?_) (fun hb40 => ?_)
      · replace hb40 := cq_ne.1.mp hb40
        refine e_step (pc' := 57) hK rfl rfl rfl ?_
        refine e_step (pc' := 58) hK rfl rfl rfl ?_
        refine e_icmp (t := 73) (pc' := 61) hK rfl (by first | omega) (by first | omega) (by decide) rfl (fun hb58 => ?_) (fun hb58 => ?_)
        · replace hb58 := cq_ne.1.mp hb58
          refine e_step (pc' := 74) hK rfl rfl rfl ?_
          refine e_step (pc' := 75) hK rfl rfl rfl ?_
          refine e_step (pc' := 77) hK rfl rfl rfl ?_
          try simp only [List.set_cons_zero, List.set_cons_succ]
          refine e_step (pc' := 80) hK rfl rfl rfl ?_
          try simp only [List.set_cons_zero, List.set_cons_succ]
          refine e_goto (t := 15) hK rfl (by decide) ?_
          have ec : cop A (gL A i) t i k = 0 := by { unfold cop; rw [if_neg (fun q9 => by have := k3.1.mpr q9; omega), if_neg (fun q9 => hb58 (go_k q9))] }
          rw [show 1 + lsum (cop A (gL A i) t i) k + 0 = 1 + lsum (cop A (gL A i) t i) (k + 1) from by { show _ = 1 + (lsum (cop A (gL A i) t i) k + cop A (gL A i) t i k); rw [ec, Int.add_zero, Int.add_zero] }]
          exact ih (k + 1) w _ ⟨by omega, hw⟩
        · replace hb58 := cq_ne.2.mp hb58
          refine e_step (pc' := 62) hK rfl rfl rfl ?_
          refine e_step (pc' := 63) hK rfl rfl rfl ?_
          refine e_step (pc' := 64) hK rfl rfl rfl ?_
          refine e_step (pc' := 65) hK rfl rfl rfl ?_
          refine e_step (pc' := 67) hK rfl rfl rfl ?_
          refine e_cQV5 (z := 125) hK rfl rfl (by first | (simp (disch := omega) only [mH_t64, mH_r1, mH_r3, mH_r4, mH_r5, mH_r6, mH_r8, mH_r9, mH_r10, mH_r11, mH_r12, mH_r14, mH_i0, mH_i2, mH_i7, mH_i13, mH_i15, mH_t71, mH_t, mH_lr, mH_l65, mH_l69, mH_l70, mH_l71, mH_l72, mH_l73, mH_l74, mH_l75, mH_c, ew, rt, rk]; rfl) | (show _ = 2; assumption) | (show _ = 1; assumption) | (show _ = 0; assumption) | (show _ = 3; assumption) | (show _ = 4; assumption)) rfl (Nat.le_of_ble_eq_true rfl) (Nat.le_of_ble_eq_true rfl) (m_wordCost a ha hRw hI t i k hi0 hi1 ht (by omega) (by omega) hb58) ?_
          rintro _ _ _ ⟨rfl, rfl, u, rfl, hu⟩
          refine ⟨by show (0 : Nat) ≠ 4; decide, ?_⟩
          rw [if_neg (by show ¬ (0 : Nat) = 3; decide)]
          try dsimp only
          show mv_Ev _ _ 70 _ _ _ _ _
          refine e_goto (t := 74) hK rfl (by decide) ?_
          refine e_step (pc' := 75) hK rfl rfl rfl ?_
          refine e_step (pc' := 77) hK rfl rfl rfl ?_
          try simp only [List.set_cons_zero, List.set_cons_succ]
          refine e_step (pc' := 80) hK rfl rfl rfl ?_
          try simp only [List.set_cons_zero, List.set_cons_succ]
          refine e_goto (t := 15) hK rfl (by decide) ?_
          have ec : cop A (gL A i) t i k = (if cz A (gL A i) t k i = true then 1 else xz (gL A i) k) := by { unfold cop; rw [if_neg (fun q9 => by have := k3.1.mpr q9; omega), if_pos (by { cases g9 : go A t k with | true => rfl | false => { rw [go_n g9] at hb58; have := xp_b (gSok hI tb.1 tb.2) (show (0 : Int) ≤ k by omega) (by omega); omega } })] }
          rw [← ec, show 1 + lsum (cop A (gL A i) t i) k + cop A (gL A i) t i k = 1 + lsum (cop A (gL A i) t i) (k + 1) from Int.add_assoc _ _ _]
          exact ih (k + 1) u _ ⟨by omega, ms_t hw hu⟩
      · replace hb40 := cq_ne.2.mp hb40
        refine e_step (pc' := 44) hK rfl rfl rfl ?_
        refine e_step (pc' := 45) hK rfl rfl rfl ?_
        refine e_step (pc' := 46) hK rfl rfl rfl ?_
        refine e_step (pc' := 47) hK rfl rfl rfl ?_
        refine e_step (pc' := 49) hK rfl rfl rfl ?_
        refine e_cQV5 (z := 121) hK rfl rfl (by first | (simp (disch := omega) only [mH_t64, mH_r1, mH_r3, mH_r4, mH_r5, mH_r6, mH_r8, mH_r9, mH_r10, mH_r11, mH_r12, mH_r14, mH_i0, mH_i2, mH_i7, mH_i13, mH_i15, mH_t71, mH_t, mH_lr, mH_l65, mH_l69, mH_l70, mH_l71, mH_l72, mH_l73, mH_l74, mH_l75, mH_c, ew, rt, rk]; rfl) | (show _ = 2; assumption) | (show _ = 1; assumption) | (show _ = 0; assumption) | (show _ = 3; assumption) | (show _ = 4; assumption)) rfl (Nat.le_of_ble_eq_true rfl) (Nat.le_of_ble_eq_true rfl) (m_numCost a ha hRw hI t i k hi0 hi1 ht (by omega) (by omega) hb40) ?_
        rintro _ _ _ ⟨rfl, rfl, u, rfl, hu⟩
        refine ⟨by show (0 : Nat) ≠ 4; decide, ?_⟩
        rw [if_neg (by show ¬ (0 : Nat) = 3; decide)]
        try dsimp only
        show mv_Ev _ _ 52 _ _ _ _ _
        refine e_goto (t := 74) hK rfl (by decide) ?_
        refine e_step (pc' := 75) hK rfl rfl rfl ?_
        refine e_step (pc' := 77) hK rfl rfl rfl ?_
        try simp only [List.set_cons_zero, List.set_cons_succ]
        refine e_step (pc' := 80) hK rfl rfl rfl ?_
        try simp only [List.set_cons_zero, List.set_cons_succ]
        refine e_goto (t := 15) hK rfl (by decide) ?_
        have ec : cop A (gL A i) t i k = con A (gL A i) k (glo A t i) := if_pos (k3.1.mp hb40)
        rw [← ec, show 1 + lsum (cop A (gL A i) t i) k + cop A (gL A i) t i k = 1 + lsum (cop A (gL A i) t i) (k + 1) from Int.add_assoc _ _ _]
        exact ih (k + 1) u _ ⟨by omega, ms_t hw hu⟩
set_option maxRecDepth 10000 in
theorem m_costLine (a : Int) (ha : 266 ≤ a ∧ a ≤ 268) {A : lg} (hR : Rw (v a) A) (hI : gI A) (t i : Int) (hi0 : 0 ≤ i) (hi1 : i < gn A) (ht : gP A i = t) : mv_Cl sc q_Mod_costOfLine [(2, 264), (2, a), (0, i)] c (mH h v) (mv_Ms h v (col A (gL A i) t i) c) := by
  have b1 := hI.1
  have b2 := hI.2.1
  have r0 := hR.1
  have r1 := hR.2.1
  have hlx := gI_l hI hi0 hi1 ht
  have hlR := (hR.2.2.1 i hi0 hi1).1
  have b3 := xn_b (gSok hI hlx.1 hlx.2.1)
  have tb : 0 ≤ t ∧ t < gT A := ⟨hlx.1, hlx.2.1⟩
  have rP : v a (2 + 42 * i + 1) = t := by { rw [← ht]; exact (hR.2.2.1 i hi0 hi1).2 }
  show mv_Ev sc 118 0 [(2, 264), (2, a), (0, i), (5, 0), (5, 0), (5, 0), (5, 0)] [] c (mH h v) _
  have hK : (mv_m 118).1 = kc_Mod_costOfLine := rfl
  refine e_step (pc' := 1) hK rfl rfl rfl ?_
  refine e_step (pc' := 2) hK rfl rfl rfl ?_
  refine e_cRS1 (z := 116) (pc' := 5) hK rfl rfl rfl (Nat.le_of_ble_eq_true rfl) (Nat.le_of_ble_eq_true rfl) (m_lineAt i) (by decide) rfl ?_
  try simp (disch := omega) only [mH_t64, mH_r1, mH_r3, mH_r4, mH_r5, mH_r6, mH_r8, mH_r9, mH_r10, mH_r11, mH_r12, mH_r14, mH_i0, mH_i2, mH_i7, mH_i13, mH_i15, mH_t71, mH_t, mH_lr, mH_l65, mH_l69, mH_l70, mH_l71, mH_l72, mH_l73, mH_l74, mH_l75, mH_c, rP]
  refine e_step (pc' := 6) hK rfl rfl rfl ?_
  refine e_step (pc' := 7) hK rfl rfl rfl ?_
  refine e_iald (pc' := 8) hK rfl (by simp (disch := omega) only [mH_t64, mH_r1, mH_r3, mH_r4, mH_r5, mH_r6, mH_r8, mH_r9, mH_r10, mH_r11, mH_r12, mH_r14, mH_i0, mH_i2, mH_i7, mH_i13, mH_i15, mH_t71, mH_t, mH_lr, mH_l65, mH_l69, mH_l70, mH_l71, mH_l72, mH_l73, mH_l74, mH_l75, mH_c, rP]) (by omega) (by (try simp (disch := omega) only [mH_t64, mH_r1, mH_r3, mH_r4, mH_r5, mH_r6, mH_r8, mH_r9, mH_r10, mH_r11, mH_r12, mH_r14, mH_i0, mH_i2, mH_i7, mH_i13, mH_i15, mH_t71, mH_t, mH_lr, mH_l65, mH_l69, mH_l70, mH_l71, mH_l72, mH_l73, mH_l74, mH_l75, mH_c, rP]); omega) rfl ?_
  try simp (disch := omega) only [mH_t64, mH_r1, mH_r3, mH_r4, mH_r5, mH_r6, mH_r8, mH_r9, mH_r10, mH_r11, mH_r12, mH_r14, mH_i0, mH_i2, mH_i7, mH_i13, mH_i15, mH_t71, mH_t, mH_lr, mH_l65, mH_l69, mH_l70, mH_l71, mH_l72, mH_l73, mH_l74, mH_l75, mH_c, rP]
  refine e_step (pc' := 9) hK rfl rfl rfl ?_
  try simp only [List.set_cons_zero, List.set_cons_succ]
  refine e_step (pc' := 10) hK rfl rfl rfl ?_
  refine e_step (pc' := 12) hK rfl rfl rfl ?_
  try simp only [List.set_cons_zero, List.set_cons_succ]
  refine e_step (pc' := 13) hK rfl rfl rfl ?_
  refine e_step (pc' := 15) hK rfl rfl rfl ?_
  try simp only [List.set_cons_zero, List.set_cons_succ]
  exact m_costLine1 a ha hR hI t i hi0 hi1 ht (xn (gs A t)).toNat 0 v _ ⟨by omega, ms_r v⟩
end MK
