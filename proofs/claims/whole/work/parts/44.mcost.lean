/-! the reference: templates of lines, costs (written by wip/whole/m44.py) -/
section MG
variable {sc : Int × (Int → Int)} {c : mv_C} {h : mv_H} {v : mvt}
set_option maxRecDepth 10000 in
theorem m_fits (a : Int) (ha : 266 ≤ a ∧ a ≤ 268) {A : lg} (hR : Rw (v a) A) (hI : gI A) (i : Int) (hi : 0 ≤ i ∧ i ≤ 24) {x : xt} (hx : xok x) (hl : Rl (v a) i x) (t : Int) (h0 : 0 ≤ t) (h1 : t < gT A) : mv_Cl sc q_Mod_fits [(2, 264), (2, a), (0, i), (0, t)] c (mH h v) (mv_Ms h v (mv_bo (gf A x t)) c) := by
  have b1 := hI.1
  have b2 := hI.2.1
  have r0 := hR.1
  have r1 := hR.2.1
  have hg := gfi_b hI h0 h1
  have b3 := xn_b hx
  have b4 := xn_b (gSok hI h0 h1)
  have rt : v a (1052 + 13 * t) = xn (gs A t) := by { rw [gs_S h0 h1]; exact (hR.2.2.2 t h0 h1).1 }
  show mv_Ev sc 149 0 [(2, 264), (2, a), (0, i), (0, t), (5, 0), (5, 0), (5, 0), (5, 0)] [] c (mH h v) _
  have hK : (mv_m 149).1 = kc_Mod_fits := rfl
  refine e_step (pc' := 1) hK rfl rfl rfl ?_
  refine e_step (pc' := 2) hK rfl rfl rfl ?_
  refine e_step (pc' := 3) hK rfl rfl rfl ?_
  refine e_step (pc' := 4) hK rfl rfl rfl ?_
  refine e_cQV4 (z := 123) hK rfl rfl (by first | (simp (disch := omega) only [mH_t64, mH_r1, mH_r3, mH_r4, mH_r5, mH_r6, mH_r8, mH_r9, mH_r10, mH_r11, mH_r12, mH_r14, mH_i0, mH_i2, mH_i7, mH_i13, mH_i15, mH_t71, mH_t, mH_lr, mH_l65, mH_l69, mH_l70, mH_l71, mH_l72, mH_l73, mH_l74, mH_l75, mH_c, rt]; rfl) | (show _ = 2; assumption) | (show _ = 1; assumption) | (show _ = 0; assumption) | (show _ = 3; assumption) | (show _ = 4; assumption)) rfl (Nat.le_of_ble_eq_true rfl) (Nat.le_of_ble_eq_true rfl) (m_cut a ha i 0 hi (Or.inl rfl) hx hl) ?_
  rintro _ _ _ ⟨rfl, rfl, w, rfl, hw, kw⟩
  refine ⟨by show (0 : Nat) ≠ 4; decide, ?_⟩
  rw [if_neg (by show ¬ (0 : Nat) = 3; decide)]
  try dsimp only
  have ea : w a = v a := hw.1 a (by omega) (by omega) (by omega)
  show mv_Ev _ _ 7 _ _ _ _ _
  refine e_step (pc' := 9) hK rfl rfl rfl ?_
  try simp only [List.set_cons_zero, List.set_cons_succ]
  refine e_step (pc' := 11) hK rfl rfl rfl ?_
  refine e_step (pc' := 12) hK rfl rfl rfl ?_
  refine e_step (pc' := 13) hK rfl rfl rfl ?_
  refine e_cRS1 (z := 119) (pc' := 16) hK rfl rfl rfl (Nat.le_of_ble_eq_true rfl) (Nat.le_of_ble_eq_true rfl) (m_tempAt t) (by decide) rfl ?_
  try simp (disch := omega) only [mH_t64, mH_r1, mH_r3, mH_r4, mH_r5, mH_r6, mH_r8, mH_r9, mH_r10, mH_r11, mH_r12, mH_r14, mH_i0, mH_i2, mH_i7, mH_i13, mH_i15, mH_t71, mH_t, mH_lr, mH_l65, mH_l69, mH_l70, mH_l71, mH_l72, mH_l73, mH_l74, mH_l75, mH_c, rt, ea]
  refine e_iald (pc' := 17) hK rfl (by simp (disch := omega) only [mH_t64, mH_r1, mH_r3, mH_r4, mH_r5, mH_r6, mH_r8, mH_r9, mH_r10, mH_r11, mH_r12, mH_r14, mH_i0, mH_i2, mH_i7, mH_i13, mH_i15, mH_t71, mH_t, mH_lr, mH_l65, mH_l69, mH_l70, mH_l71, mH_l72, mH_l73, mH_l74, mH_l75, mH_c, rt, ea]) (by omega) (by (try simp (disch := omega) only [mH_t64, mH_r1, mH_r3, mH_r4, mH_r5, mH_r6, mH_r8, mH_r9, mH_r10, mH_r11, mH_r12, mH_r14, mH_i0, mH_i2, mH_i7, mH_i13, mH_i15, mH_t71, mH_t, mH_lr, mH_l65, mH_l69, mH_l70, mH_l71, mH_l72, mH_l73, mH_l74, mH_l75, mH_c, rt, ea]); omega) rfl ?_
  try simp (disch := omega) only [mH_t64, mH_r1, mH_r3, mH_r4, mH_r5, mH_r6, mH_r8, mH_r9, mH_r10, mH_r11, mH_r12, mH_r14, mH_i0, mH_i2, mH_i7, mH_i13, mH_i15, mH_t71, mH_t, mH_lr, mH_l65, mH_l69, mH_l70, mH_l71, mH_l72, mH_l73, mH_l74, mH_l75, mH_c, rt, ea]
  refine e_icmp (t := 22) (pc' := 20) hK rfl (by omega) (by omega) (by decide) rfl (fun hb17 => ?_) (fun hb17 => ?_)
  · replace hb17 := cq_eq.1.mp hb17
    refine e_step (pc' := 23) hK rfl rfl rfl ?_
    refine e_step (pc' := 24) hK rfl rfl rfl ?_
    refine e_step (pc' := 25) hK rfl rfl rfl ?_
    refine e_step (pc' := 26) hK rfl rfl rfl ?_
    refine e_cRS2 (z := 129) (pc' := 29) hK rfl rfl rfl (Nat.le_of_ble_eq_true rfl) (Nat.le_of_ble_eq_true rfl) (m_first a ha (by rw [ea]; exact hR) hI t h0 h1) (by decide) rfl ?_
    try simp (disch := omega) only [mH_t64, mH_r1, mH_r3, mH_r4, mH_r5, mH_r6, mH_r8, mH_r9, mH_r10, mH_r11, mH_r12, mH_r14, mH_i0, mH_i2, mH_i7, mH_i13, mH_i15, mH_t71, mH_t, mH_lr, mH_l65, mH_l69, mH_l70, mH_l71, mH_l72, mH_l73, mH_l74, mH_l75, mH_c, rt, ea]
    refine e_step (pc' := 31) hK rfl rfl rfl ?_
    refine e_cQV4 (z := 123) hK rfl rfl (by first | (simp (disch := omega) only [mH_t64, mH_r1, mH_r3, mH_r4, mH_r5, mH_r6, mH_r8, mH_r9, mH_r10, mH_r11, mH_r12, mH_r14, mH_i0, mH_i2, mH_i7, mH_i13, mH_i15, mH_t71, mH_t, mH_lr, mH_l65, mH_l69, mH_l70, mH_l71, mH_l72, mH_l73, mH_l74, mH_l75, mH_c, rt, ea]; rfl) | (show _ = 2; assumption) | (show _ = 1; assumption) | (show _ = 0; assumption) | (show _ = 3; assumption) | (show _ = 4; assumption)) rfl (Nat.le_of_ble_eq_true rfl) (Nat.le_of_ble_eq_true rfl) (m_cut a ha (gfi A t) 12 ⟨by omega, by omega⟩ (Or.inr rfl) (gLok hI hg.1 hg.2.1) (by rw [ea]; exact (hR.2.2.1 _ hg.1 hg.2.1).1)) ?_
    rintro _ _ _ ⟨rfl, rfl, u, rfl, hu, ku⟩
    refine ⟨by show (0 : Nat) ≠ 4; decide, ?_⟩
    rw [if_neg (by show ¬ (0 : Nat) = 3; decide)]
    try dsimp only
    have eu : u a = v a := (hu.1 a (by omega) (by omega) (by omega)).trans ea
    show mv_Ev _ _ 34 _ _ _ _ _
    refine e_step (pc' := 35) hK rfl rfl rfl ?_
    refine e_step (pc' := 36) hK rfl rfl rfl ?_
    refine e_step (pc' := 38) hK rfl rfl rfl ?_
    try simp only [List.set_cons_zero, List.set_cons_succ]
    refine Ms_of (m_fits1 a ha (by rw [eu]; exact hR) hI t h0 h1 (i := i) hg.1 hg.2.1 hg.2.2.1 hb17 (fun p p0 p1 => ?_) (fun p p0 p1 => ?_) (xn x).toNat 0 _ _ ⟨by omega, rfl⟩) (ms_t hw.1 hu.1)
    · rw [eu]; exact Pc_of (o := 0) (Ct_fr kw hu (by omega) (by show xn x ≤ 12; omega)) hl hi hx (Or.inl rfl) p0 p1 (by omega)
    · have e9 := (gI_l hI hg.1 hg.2.1 hg.2.2.1).2.2.2.1
      rw [eu]; exact Pc_of (o := 12) ku (hR.2.2.1 _ hg.1 hg.2.1).1 ⟨by omega, by omega⟩ (gLok hI hg.1 hg.2.1) (Or.inr rfl) p0 (by omega) rfl
  · replace hb17 := cq_eq.2.mp hb17
    refine e_step (pc' := 21) hK rfl rfl rfl ?_
    refine e_ret hK rfl rfl (by first | rfl | (simp only [mv_ret]; rw [if_pos]; exact Or.inr ⟨rfl, by omega⟩) | (simp only [mv_ret]; rw [if_pos]; exact Or.inr ⟨rfl, by unfold mv_bo; split <;> first | exact Or.inl rfl | exact Or.inr rfl⟩)) ?_
    refine ⟨?_, rfl, w, rfl, hw.1⟩
    congr 1
    unfold gf
    rw [decide_eq_false hb17]
    rfl
set_option maxRecDepth 10000 in
theorem m_tempFor1 (a : Int) (ha : 266 ≤ a ∧ a ≤ 268) {A : lg} (hR : Rw (v a) A) (hI : gI A) (i : Int) (hi : 0 ≤ i ∧ i ≤ 24) {x : xt} (hx : xok x) (hl : Rl (v a) i x) : ∀ (m : Nat) (t : Nat) (w : mvt), t + m = gT A ∧ lf (fun t => gf A x t) t = -9999 ∧ ms v w → mv_Ev sc 148 2 [(2, 264), (2, a), (0, i), (0, (t : Int))] [] c (mH h w) (mv_Ms h v (gff A x) c) := by
  intro m
  induction m with
  | zero =>
    intro t w ⟨ht, hf, hw⟩
    have b1 := hI.1
    have b2 := hI.2.1
    have r0 := hR.1
    have r1 := hR.2.1
    have ew : w a = v a := hw a (by omega) (by omega) (by omega)
    have hK : (mv_m 148).1 = kc_Mod_templateFor := rfl
    refine e_step (pc' := 3) hK rfl rfl rfl ?_
    refine e_step (pc' := 4) hK rfl rfl rfl ?_
    refine e_step (pc' := 5) hK rfl rfl rfl ?_
    refine e_iald (pc' := 6) hK rfl (by simp (disch := omega) only [mH_t64, mH_r1, mH_r3, mH_r4, mH_r5, mH_r6, mH_r8, mH_r9, mH_r10, mH_r11, mH_r12, mH_r14, mH_i0, mH_i2, mH_i7, mH_i13, mH_i15, mH_t71, mH_t, mH_lr, mH_l65, mH_l69, mH_l70, mH_l71, mH_l72, mH_l73, mH_l74, mH_l75, mH_c, ew, r1]) (by first | omega | exact bo_i _) (by (try simp (disch := omega) only [mH_t64, mH_r1, mH_r3, mH_r4, mH_r5, mH_r6, mH_r8, mH_r9, mH_r10, mH_r11, mH_r12, mH_r14, mH_i0, mH_i2, mH_i7, mH_i13, mH_i15, mH_t71, mH_t, mH_lr, mH_l65, mH_l69, mH_l70, mH_l71, mH_l72, mH_l73, mH_l74, mH_l75, mH_c, ew, r1]); first | omega | exact bo_i _) rfl ?_
    try simp (disch := omega) only [mH_t64, mH_r1, mH_r3, mH_r4, mH_r5, mH_r6, mH_r8, mH_r9, mH_r10, mH_r11, mH_r12, mH_r14, mH_i0, mH_i2, mH_i7, mH_i13, mH_i15, mH_t71, mH_t, mH_lr, mH_l65, mH_l69, mH_l70, mH_l71, mH_l72, mH_l73, mH_l74, mH_l75, mH_c, ew, r1]
    refine e_icmp (t := 27) (pc' := 9) hK rfl (by first | omega | exact bo_i _) (by first | omega | exact bo_i _) (by decide) rfl (fun hb6 => ?_) (fun hb6 => ?_)
    · replace hb6 := cq_ge.1.mp hb6
      try simp only [bo_0, Bool.not_eq_false] at hb6
      refine e_step (pc' := 30) hK rfl rfl rfl ?_
      refine e_ret hK rfl rfl rfl ?_
      have e : t = gT A := by omega
      subst e
      exact ⟨by { show (0, (-9999 : Int)) = (0, lf (fun t => gf A x t) (gT A)); rw [hf] }, rfl, w, rfl, hw⟩
    · replace hb6 := cq_ge.2.mp hb6
      try simp only [bo_0, Bool.not_eq_false] at hb6
      exfalso; first | omega | exact absurd trivial (by assumption) | (first | omega | exact bo_i _)
  | succ m ih =>
    intro t w ⟨ht, hf, hw⟩
    have b1 := hI.1
    have b2 := hI.2.1
    have r0 := hR.1
    have r1 := hR.2.1
    have ew : w a = v a := hw a (by omega) (by omega) (by omega)
    have hK : (mv_m 148).1 = kc_Mod_templateFor := rfl
    refine e_step (pc' := 3) hK rfl rfl rfl ?_
    refine e_step (pc' := 4) hK rfl rfl rfl ?_
    refine e_step (pc' := 5) hK rfl rfl rfl ?_
    refine e_iald (pc' := 6) hK rfl (by simp (disch := omega) only [mH_t64, mH_r1, mH_r3, mH_r4, mH_r5, mH_r6, mH_r8, mH_r9, mH_r10, mH_r11, mH_r12, mH_r14, mH_i0, mH_i2, mH_i7, mH_i13, mH_i15, mH_t71, mH_t, mH_lr, mH_l65, mH_l69, mH_l70, mH_l71, mH_l72, mH_l73, mH_l74, mH_l75, mH_c, ew, r1]) (by first | omega | exact bo_i _) (by (try simp (disch := omega) only [mH_t64, mH_r1, mH_r3, mH_r4, mH_r5, mH_r6, mH_r8, mH_r9, mH_r10, mH_r11, mH_r12, mH_r14, mH_i0, mH_i2, mH_i7, mH_i13, mH_i15, mH_t71, mH_t, mH_lr, mH_l65, mH_l69, mH_l70, mH_l71, mH_l72, mH_l73, mH_l74, mH_l75, mH_c, ew, r1]); first | omega | exact bo_i _) rfl ?_
    try simp (disch := omega) only [mH_t64, mH_r1, mH_r3, mH_r4, mH_r5, mH_r6, mH_r8, mH_r9, mH_r10, mH_r11, mH_r12, mH_r14, mH_i0, mH_i2, mH_i7, mH_i13, mH_i15, mH_t71, mH_t, mH_lr, mH_l65, mH_l69, mH_l70, mH_l71, mH_l72, mH_l73, mH_l74, mH_l75, mH_c, ew, r1]
    refine e_icmp (t := 27) (pc' := 9) hK rfl (by first | omega | exact bo_i _) (by first | omega | exact bo_i _) (by decide) rfl (fun hb6 => ?_) (fun hb6 => ?_)
    · replace hb6 := cq_ge.1.mp hb6
      try simp only [bo_0, Bool.not_eq_false] at hb6
      exfalso; first | omega | exact absurd trivial (by assumption) | (first | omega | exact bo_i _)
    · replace hb6 := cq_ge.2.mp hb6
      try simp only [bo_0, Bool.not_eq_false] at hb6
      refine e_step (pc' := 10) hK rfl rfl rfl ?_
      refine e_step (pc' := 11) hK rfl rfl rfl ?_
      refine e_step (pc' := 12) hK rfl rfl rfl ?_
      refine e_step (pc' := 13) hK rfl rfl rfl ?_
      refine e_cQV4 (z := 149) hK rfl rfl (by first | (simp (disch := omega) only [mH_t64, mH_r1, mH_r3, mH_r4, mH_r5, mH_r6, mH_r8, mH_r9, mH_r10, mH_r11, mH_r12, mH_r14, mH_i0, mH_i2, mH_i7, mH_i13, mH_i15, mH_t71, mH_t, mH_lr, mH_l65, mH_l69, mH_l70, mH_l71, mH_l72, mH_l73, mH_l74, mH_l75, mH_c, ew, r1]; rfl) | (show _ = 2; assumption) | (show _ = 1; assumption) | (show _ = 0; assumption) | (show _ = 3; assumption) | (show _ = 4; assumption)) rfl (Nat.le_of_ble_eq_true rfl) (Nat.le_of_ble_eq_true rfl) (m_fits a ha (by rw [ew]; exact hR) hI i hi hx (by rw [ew]; exact hl) (t : Int) (by omega) (by omega)) ?_
      rintro _ _ _ ⟨rfl, rfl, u, rfl, hu⟩
      refine ⟨by show (0 : Nat) ≠ 4; decide, ?_⟩
      rw [if_neg (by show ¬ (0 : Nat) = 3; decide)]
      try dsimp only
      have hu2 := ms_t hw hu
      show mv_Ev _ _ 16 _ _ _ _ _
      refine e_if (t := 21) (pc' := 19) hK rfl (by first | omega | exact bo_i _) (by decide) rfl (fun hb16 => ?_) (fun hb16 => ?_)
      · replace hb16 := cq_eq.1.mp hb16
        try simp only [bo_0, Bool.not_eq_false] at hb16
        refine e_step (pc' := 24) hK rfl rfl rfl ?_
        try simp only [List.set_cons_zero, List.set_cons_succ]
        refine e_goto (t := 2) hK rfl (by decide) ?_
        exact ih (t + 1) u ⟨by omega, lf_s hf hb16, hu2⟩
      · replace hb16 := cq_eq.2.mp hb16
        try simp only [bo_0, Bool.not_eq_false] at hb16
        refine e_step (pc' := 20) hK rfl rfl rfl ?_
        refine e_ret hK rfl rfl rfl ?_
        refine ⟨?_, rfl, u, rfl, hu2⟩
        congr 1
        exact (lf_hit hf hb16 (by omega)).symm
set_option maxRecDepth 10000 in
theorem m_tempFor (a : Int) (ha : 266 ≤ a ∧ a ≤ 268) {A : lg} (hR : Rw (v a) A) (hI : gI A) (i : Int) (hi : 0 ≤ i ∧ i ≤ 24) {x : xt} (hx : xok x) (hl : Rl (v a) i x) : mv_Cl sc q_Mod_templateFor [(2, 264), (2, a), (0, i)] c (mH h v) (mv_Ms h v (gff A x) c) := by
  show mv_Ev sc 148 0 [(2, 264), (2, a), (0, i), (5, 0)] [] c (mH h v) _
  have hK : (mv_m 148).1 = kc_Mod_templateFor := rfl
  refine e_step (pc' := 1) hK rfl rfl rfl ?_
  refine e_step (pc' := 2) hK rfl rfl rfl ?_
  try simp only [List.set_cons_zero, List.set_cons_succ]
  exact m_tempFor1 a ha hR hI i hi hx hl (gT A) 0 v ⟨by omega, rfl, ms_r v⟩
set_option maxRecDepth 10000 in
theorem m_slots1 (a : Int) (ha : 266 ≤ a ∧ a ≤ 268) {A : lg} (hR : Rw (v a) A) (hI : gI A) (t : Int) (h0 : 0 ≤ t) (h1 : t < gT A) (s : Int) (hs : mv_i s) : ∀ (m : Nat) (k : Nat), k + m = (xn (gs A t)).toNat → mv_Ev sc 132 5 [(2, a), (0, t), (0, s), (0, lc (fun p => decide (gk A t p = s)) k), (0, (k : Int))] [] c (mH h v) (mv_Rd (0, csl A t s) c (mH h v)) := by
  intro m
  induction m with
  | zero =>
    intro k hk
    have b1 := hI.1
    have b2 := hI.2.1
    have r0 := hR.1
    have r1 := hR.2.1
    have b4 := xn_b (gSok hI h0 h1)
    have rt : v a (1052 + 13 * t) = xn (gs A t) := by { rw [gs_S h0 h1]; exact (hR.2.2.2 t h0 h1).1 }
    have rk := fun (k : Int) (k0 : 0 ≤ k) (k1 : k < xn (gs A t)) => (hR.2.2.2 t h0 h1).2 k k0 (by rw [← gs_S h0 h1]; exact k1)
    have hK : (mv_m 132).1 = kc_Mod_slots := rfl
    refine e_step (pc' := 7) hK rfl rfl rfl ?_
    refine e_step (pc' := 8) hK rfl rfl rfl ?_
    refine e_step (pc' := 9) hK rfl rfl rfl ?_
    refine e_cRS1 (z := 119) (pc' := 12) hK rfl rfl rfl (Nat.le_of_ble_eq_true rfl) (Nat.le_of_ble_eq_true rfl) (m_tempAt t) (by decide) rfl ?_
    try simp (disch := omega) only [mH_t64, mH_r1, mH_r3, mH_r4, mH_r5, mH_r6, mH_r8, mH_r9, mH_r10, mH_r11, mH_r12, mH_r14, mH_i0, mH_i2, mH_i7, mH_i13, mH_i15, mH_t71, mH_t, mH_lr, mH_l65, mH_l69, mH_l70, mH_l71, mH_l72, mH_l73, mH_l74, mH_l75, mH_c, rt, rk]
    refine e_iald (pc' := 13) hK rfl (by simp (disch := omega) only [mH_t64, mH_r1, mH_r3, mH_r4, mH_r5, mH_r6, mH_r8, mH_r9, mH_r10, mH_r11, mH_r12, mH_r14, mH_i0, mH_i2, mH_i7, mH_i13, mH_i15, mH_t71, mH_t, mH_lr, mH_l65, mH_l69, mH_l70, mH_l71, mH_l72, mH_l73, mH_l74, mH_l75, mH_c, rt, rk]) (by first | omega) (by (try simp (disch := omega) only [mH_t64, mH_r1, mH_r3, mH_r4, mH_r5, mH_r6, mH_r8, mH_r9, mH_r10, mH_r11, mH_r12, mH_r14, mH_i0, mH_i2, mH_i7, mH_i13, mH_i15, mH_t71, mH_t, mH_lr, mH_l65, mH_l69, mH_l70, mH_l71, mH_l72, mH_l73, mH_l74, mH_l75, mH_c, rt, rk]); first | omega) rfl ?_
    try simp (disch := omega) only [mH_t64, mH_r1, mH_r3, mH_r4, mH_r5, mH_r6, mH_r8, mH_r9, mH_r10, mH_r11, mH_r12, mH_r14, mH_i0, mH_i2, mH_i7, mH_i13, mH_i15, mH_t71, mH_t, mH_lr, mH_l65, mH_l69, mH_l70, mH_l71, mH_l72, mH_l73, mH_l74, mH_l75, mH_c, rt, rk]
    refine e_icmp (t := 41) (pc' := 16) hK rfl (by first | omega) (by first | omega) (by decide) rfl (fun hb13 => ?_) (fun hb13 => ?_)
    · replace hb13 := cq_ge.1.mp hb13
      refine e_step (pc' := 42) hK rfl rfl rfl ?_
      refine e_ret hK rfl rfl rfl ?_
      refine ⟨?_, rfl, rfl⟩
      congr 1
      rw [show k = (xn (gs A t)).toNat from by omega]
      rfl
    · replace hb13 := cq_ge.2.mp hb13
      exfalso; first | omega | exact absurd trivial (by assumption) | (first | omega)
  | succ m ih =>
    intro k hk
    have b1 := hI.1
    have b2 := hI.2.1
    have r0 := hR.1
    have r1 := hR.2.1
    have b4 := xn_b (gSok hI h0 h1)
    have rt : v a (1052 + 13 * t) = xn (gs A t) := by { rw [gs_S h0 h1]; exact (hR.2.2.2 t h0 h1).1 }
    have rk := fun (k : Int) (k0 : 0 ≤ k) (k1 : k < xn (gs A t)) => (hR.2.2.2 t h0 h1).2 k k0 (by rw [← gs_S h0 h1]; exact k1)
    have hK : (mv_m 132).1 = kc_Mod_slots := rfl
    refine e_step (pc' := 7) hK rfl rfl rfl ?_
    refine e_step (pc' := 8) hK rfl rfl rfl ?_
    refine e_step (pc' := 9) hK rfl rfl rfl ?_
    refine e_cRS1 (z := 119) (pc' := 12) hK rfl rfl rfl (Nat.le_of_ble_eq_true rfl) (Nat.le_of_ble_eq_true rfl) (m_tempAt t) (by decide) rfl ?_
    try simp (disch := omega) only [mH_t64, mH_r1, mH_r3, mH_r4, mH_r5, mH_r6, mH_r8, mH_r9, mH_r10, mH_r11, mH_r12, mH_r14, mH_i0, mH_i2, mH_i7, mH_i13, mH_i15, mH_t71, mH_t, mH_lr, mH_l65, mH_l69, mH_l70, mH_l71, mH_l72, mH_l73, mH_l74, mH_l75, mH_c, rt, rk]
    refine e_iald (pc' := 13) hK rfl (by simp (disch := omega) only [mH_t64, mH_r1, mH_r3, mH_r4, mH_r5, mH_r6, mH_r8, mH_r9, mH_r10, mH_r11, mH_r12, mH_r14, mH_i0, mH_i2, mH_i7, mH_i13, mH_i15, mH_t71, mH_t, mH_lr, mH_l65, mH_l69, mH_l70, mH_l71, mH_l72, mH_l73, mH_l74, mH_l75, mH_c, rt, rk]) (by first | omega) (by (try simp (disch := omega) only [mH_t64, mH_r1, mH_r3, mH_r4, mH_r5, mH_r6, mH_r8, mH_r9, mH_r10, mH_r11, mH_r12, mH_r14, mH_i0, mH_i2, mH_i7, mH_i13, mH_i15, mH_t71, mH_t, mH_lr, mH_l65, mH_l69, mH_l70, mH_l71, mH_l72, mH_l73, mH_l74, mH_l75, mH_c, rt, rk]); first | omega) rfl ?_
    try simp (disch := omega) only [mH_t64, mH_r1, mH_r3, mH_r4, mH_r5, mH_r6, mH_r8, mH_r9, mH_r10, mH_r11, mH_r12, mH_r14, mH_i0, mH_i2, mH_i7, mH_i13, mH_i15, mH_t71, mH_t, mH_lr, mH_l65, mH_l69, mH_l70, mH_l71, mH_l72, mH_l73, mH_l74, mH_l75, mH_c, rt, rk]
    refine e_icmp (t := 41) (pc' := 16) hK rfl (by first | omega) (by first | omega) (by decide) rfl (fun hb13 => ?_) (fun hb13 => ?_)
    · replace hb13 := cq_ge.1.mp hb13
      exfalso; first | omega | exact absurd trivial (by assumption) | (first | omega)
    · replace hb13 := cq_ge.2.mp hb13
      refine e_step (pc' := 17) hK rfl rfl rfl ?_
      refine e_step (pc' := 18) hK rfl rfl rfl ?_
      refine e_step (pc' := 19) hK rfl rfl rfl ?_
      refine e_step (pc' := 21) hK rfl rfl rfl ?_
      refine e_cRS3 (z := 120) (pc' := 24) hK rfl rfl rfl (Nat.le_of_ble_eq_true rfl) (Nat.le_of_ble_eq_true rfl) (m_kindOf a ha t (k : Int) (by omega) (by omega)) (by decide) rfl ?_
      try simp (disch := omega) only [mH_t64, mH_r1, mH_r3, mH_r4, mH_r5, mH_r6, mH_r8, mH_r9, mH_r10, mH_r11, mH_r12, mH_r14, mH_i0, mH_i2, mH_i7, mH_i13, mH_i15, mH_t71, mH_t, mH_lr, mH_l65, mH_l69, mH_l70, mH_l71, mH_l72, mH_l73, mH_l74, mH_l75, mH_c, rt, rk]
      have kb := gk_i hI h0 h1 (show (0 : Int) ≤ k by omega) (by omega)
      refine e_step (pc' := 25) hK rfl rfl rfl ?_
      refine e_icmp (t := 32) (pc' := 28) hK rfl (by first | omega) (by first | omega) (by decide) rfl (fun hb25 => ?_) (fun hb25 => ?_)
      · replace hb25 := cq_ne.1.mp hb25
        refine e_step (pc' := 33) hK rfl rfl rfl ?_
        refine e_step (pc' := 34) hK rfl rfl rfl ?_
        refine e_step (pc' := 35) hK rfl rfl rfl ?_
        try simp only [List.set_cons_zero, List.set_cons_succ]
        refine e_step (pc' := 38) hK rfl rfl rfl ?_
        try simp only [List.set_cons_zero, List.set_cons_succ]
        refine e_goto (t := 5) hK rfl (by decide) ?_
        rw [Int.add_zero, ← lc_f (q := fun p => decide (gk A t p = s)) (decide_eq_false hb25)]
        exact ih (k + 1) (by omega)
      · replace hb25 := cq_ne.2.mp hb25
        refine e_step (pc' := 29) hK rfl rfl rfl ?_
        refine e_goto (t := 33) hK rfl (by decide) ?_
        refine e_step (pc' := 34) hK rfl rfl rfl ?_
        refine e_step (pc' := 35) hK rfl rfl rfl ?_
        try simp only [List.set_cons_zero, List.set_cons_succ]
        refine e_step (pc' := 38) hK rfl rfl rfl ?_
        try simp only [List.set_cons_zero, List.set_cons_succ]
        refine e_goto (t := 5) hK rfl (by decide) ?_
        rw [← lc_t (q := fun p => decide (gk A t p = s)) (decide_eq_true hb25)]
        exact ih (k + 1) (by omega)
set_option maxRecDepth 10000 in
theorem m_slots (a : Int) (ha : 266 ≤ a ∧ a ≤ 268) {A : lg} (hR : Rw (v a) A) (hI : gI A) (t : Int) (h0 : 0 ≤ t) (h1 : t < gT A) (s : Int) (hs : mv_i s) : mv_Cl sc q_Mod_slots [(2, a), (0, t), (0, s)] c (mH h v) (mv_Rd (0, csl A t s) c (mH h v)) := by
  have b1 := hI.1
  have b2 := hI.2.1
  have r0 := hR.1
  have r1 := hR.2.1
  have b4 := xn_b (gSok hI h0 h1)
  have rt : v a (1052 + 13 * t) = xn (gs A t) := by { rw [gs_S h0 h1]; exact (hR.2.2.2 t h0 h1).1 }
  have rk := fun (k : Int) (k0 : 0 ≤ k) (k1 : k < xn (gs A t)) => (hR.2.2.2 t h0 h1).2 k k0 (by rw [← gs_S h0 h1]; exact k1)
  show mv_Ev sc 132 0 [(2, a), (0, t), (0, s), (5, 0), (5, 0)] [] c (mH h v) _
  have hK : (mv_m 132).1 = kc_Mod_slots := rfl
  refine e_step (pc' := 1) hK rfl rfl rfl ?_
  refine e_step (pc' := 2) hK rfl rfl rfl ?_
  try simp only [List.set_cons_zero, List.set_cons_succ]
  refine e_step (pc' := 3) hK rfl rfl rfl ?_
  refine e_step (pc' := 5) hK rfl rfl rfl ?_
  try simp only [List.set_cons_zero, List.set_cons_succ]
  exact m_slots1 a ha hR hI t h0 h1 s hs (xn (gs A t)).toNat 0 (by omega)
set_option maxRecDepth 10000 in
theorem m_isPiece (a : Int) (ha : 266 ≤ a ∧ a ≤ 268) {A : lg} (hR : Rw (v a) A) (hI : gI A) (t q : Int) (ht : mv_i t) (hq : mv_i q) : mv_Cl sc q_Mod_isPiece [(2, a), (0, t), (0, q)] c (mH h v) (mv_Rd (0, mv_bo (decide (0 ≤ t ∧ t < gT A ∧ 0 ≤ q ∧ q < xn (gs A t)))) c (mH h v)) := by
  have b1 := hI.1
  have b2 := hI.2.1
  have r0 := hR.1
  have r1 := hR.2.1
  show mv_Ev sc 141 0 [(2, a), (0, t), (0, q)] [] c (mH h v) _
  have hK : (mv_m 141).1 = kc_Mod_isPiece := rfl
  refine e_step (pc' := 1) hK rfl rfl rfl ?_
  refine e_step (pc' := 2) hK rfl rfl rfl ?_
  refine e_cRS2 (z := 139) (pc' := 5) hK rfl rfl rfl (Nat.le_of_ble_eq_true rfl) (Nat.le_of_ble_eq_true rfl) (m_isTemplate a ha t ht (by omega)) (by decide) rfl ?_
  try simp (disch := omega) only [mH_t64, mH_r1, mH_r3, mH_r4, mH_r5, mH_r6, mH_r8, mH_r9, mH_r10, mH_r11, mH_r12, mH_r14, mH_i0, mH_i2, mH_i7, mH_i13, mH_i15, mH_t71, mH_t, mH_lr, mH_l65, mH_l69, mH_l70, mH_l71, mH_l72, mH_l73, mH_l74, mH_l75, mH_c, rt9, r1]
  refine e_if (t := 30) (pc' := 8) hK rfl (by first | omega | exact bo_i _) (by decide) rfl (fun hb5 => ?_) (fun hb5 => ?_)
  · replace hb5 := cq_eq.1.mp hb5
    try simp only [bo_0, Bool.not_eq_false] at hb5
    refine e_step (pc' := 31) hK rfl rfl rfl ?_
    refine e_ret hK rfl rfl (by first | rfl | (simp only [mv_ret]; rw [if_pos]; exact Or.inr ⟨rfl, by omega⟩) | (simp only [mv_ret]; rw [if_pos]; exact Or.inr ⟨rfl, by unfold mv_bo; split <;> first | exact Or.inl rfl | exact Or.inr rfl⟩)) ?_
    refine ⟨?_, rfl, rfl⟩
    congr 1
    have q9 := hb5
    simp only [Bool.and_eq_false_iff, decide_eq_false_iff_not] at q9
    rw [decide_eq_false (by omega)]; rfl
  · replace hb5 := cq_eq.2.mp hb5
    try simp only [bo_0, Bool.not_eq_false] at hb5
    obtain ⟨h0, h1⟩ : 0 ≤ t ∧ t < gT A := by { have q9 := hb5; simp only [Bool.and_eq_true, decide_eq_true_eq] at q9; omega }
    have b4 := xn_b (gSok hI h0 h1)
    have rt9 : v a (1052 + 13 * t) = xn (gs A t) := by { rw [gs_S h0 h1]; exact (hR.2.2.2 t h0 h1).1 }
    refine e_step (pc' := 9) hK rfl rfl rfl ?_
    refine e_i2l (pc' := 10) hK rfl (by first | omega | exact bo_i _) rfl ?_
    refine e_step (pc' := 11) hK rfl rfl rfl ?_
    refine e_step (pc' := 12) hK rfl rfl rfl ?_
    refine e_step (pc' := 13) hK rfl rfl rfl ?_
    refine e_cRS1 (z := 119) (pc' := 16) hK rfl rfl rfl (Nat.le_of_ble_eq_true rfl) (Nat.le_of_ble_eq_true rfl) (m_tempAt t) (by decide) rfl ?_
    try simp (disch := omega) only [mH_t64, mH_r1, mH_r3, mH_r4, mH_r5, mH_r6, mH_r8, mH_r9, mH_r10, mH_r11, mH_r12, mH_r14, mH_i0, mH_i2, mH_i7, mH_i13, mH_i15, mH_t71, mH_t, mH_lr, mH_l65, mH_l69, mH_l70, mH_l71, mH_l72, mH_l73, mH_l74, mH_l75, mH_c, rt9, r1]
    refine e_iald (pc' := 17) hK rfl (by simp (disch := omega) only [mH_t64, mH_r1, mH_r3, mH_r4, mH_r5, mH_r6, mH_r8, mH_r9, mH_r10, mH_r11, mH_r12, mH_r14, mH_i0, mH_i2, mH_i7, mH_i13, mH_i15, mH_t71, mH_t, mH_lr, mH_l65, mH_l69, mH_l70, mH_l71, mH_l72, mH_l73, mH_l74, mH_l75, mH_c, rt9, r1]) (by first | omega | exact bo_i _) (by (try simp (disch := omega) only [mH_t64, mH_r1, mH_r3, mH_r4, mH_r5, mH_r6, mH_r8, mH_r9, mH_r10, mH_r11, mH_r12, mH_r14, mH_i0, mH_i2, mH_i7, mH_i13, mH_i15, mH_t71, mH_t, mH_lr, mH_l65, mH_l69, mH_l70, mH_l71, mH_l72, mH_l73, mH_l74, mH_l75, mH_c, rt9, r1]); first | omega | exact bo_i _) rfl ?_
    try simp (disch := omega) only [mH_t64, mH_r1, mH_r3, mH_r4, mH_r5, mH_r6, mH_r8, mH_r9, mH_r10, mH_r11, mH_r12, mH_r14, mH_i0, mH_i2, mH_i7, mH_i13, mH_i15, mH_t71, mH_t, mH_lr, mH_l65, mH_l69, mH_l70, mH_l71, mH_l72, mH_l73, mH_l74, mH_l75, mH_c, rt9, r1]
    refine e_step (pc' := 18) hK rfl rfl rfl ?_
    refine e_step (pc' := 19) hK rfl rfl rfl ?_
    refine e_i2l (pc' := 20) hK rfl (by first | omega | exact bo_i _) rfl ?_
    refine e_cRS3 (z := 109) (pc' := 23) hK rfl rfl rfl (Nat.le_of_ble_eq_true rfl) (Nat.le_of_ble_eq_true rfl) (m_in q 0 (xn (gs A t) - 1) (by omega) (by omega) (by omega)) (by decide) rfl ?_
    try simp (disch := omega) only [mH_t64, mH_r1, mH_r3, mH_r4, mH_r5, mH_r6, mH_r8, mH_r9, mH_r10, mH_r11, mH_r12, mH_r14, mH_i0, mH_i2, mH_i7, mH_i13, mH_i15, mH_t71, mH_t, mH_lr, mH_l65, mH_l69, mH_l70, mH_l71, mH_l72, mH_l73, mH_l74, mH_l75, mH_c, rt9, r1]
    refine e_if (t := 30) (pc' := 26) hK rfl (by first | omega | exact bo_i _) (by decide) rfl (fun hb23 => ?_) (fun hb23 => ?_)
    · replace hb23 := cq_eq.1.mp hb23
      try simp only [bo_0, Bool.not_eq_false] at hb23
      refine e_step (pc' := 31) hK rfl rfl rfl ?_
      refine e_ret hK rfl rfl (by first | rfl | (simp only [mv_ret]; rw [if_pos]; exact Or.inr ⟨rfl, by omega⟩) | (simp only [mv_ret]; rw [if_pos]; exact Or.inr ⟨rfl, by unfold mv_bo; split <;> first | exact Or.inl rfl | exact Or.inr rfl⟩)) ?_
      refine ⟨?_, rfl, rfl⟩
      congr 1
      have q9 := hb23
      simp only [Bool.and_eq_false_iff, decide_eq_false_iff_not] at q9
      rw [decide_eq_false (by omega)]; rfl
    · replace hb23 := cq_eq.2.mp hb23
      try simp only [bo_0, Bool.not_eq_false] at hb23
      refine e_step (pc' := 27) hK rfl rfl rfl ?_
      refine e_goto (t := 31) hK rfl (by decide) ?_
      refine e_ret hK rfl rfl (by first | rfl | (simp only [mv_ret]; rw [if_pos]; exact Or.inr ⟨rfl, by omega⟩) | (simp only [mv_ret]; rw [if_pos]; exact Or.inr ⟨rfl, by unfold mv_bo; split <;> first | exact Or.inl rfl | exact Or.inr rfl⟩)) ?_
      refine ⟨?_, rfl, rfl⟩
      congr 1
      have q9 := hb23
      simp only [Bool.and_eq_true, decide_eq_true_eq] at q9
      rw [decide_eq_true (by omega)]; rfl
end MG
