/-! the reference: costs of templates, words, things (written by wip/whole/m46.py) -/
section MW
variable {sc : Int × (Int → Int)} {c : mv_C} {h : mv_H} {v : mvt}
set_option maxRecDepth 10000 in
theorem m_costTemp1 (a : Int) (ha : 266 ≤ a ∧ a ≤ 268) {A : lg} (hR : Rw (v a) A) (hI : gI A) (t : Int) (h0 : 0 ≤ t) (h1 : t < gT A) (w : mvt) (hw : ms v w) (hp : ∀ p : Int, 0 ≤ p → p < xn (gs A t) → w 273 p = xz (gL A (gfi A t)) p) : ∀ (m : Nat) (k : Nat), (k + m = (xn (gs A t)).toNat) → mv_Ev sc 128 17 [(2, 264), (2, a), (0, t), (0, lsum (fun p => if csl1 A t p = true then 1 else xz (gs A t) p) k), (0, (k : Int))] [] c (mH h w) (mv_Ms h v (cot A t) c) := by
  intro m
  induction m with
  | zero =>
    intro k hk
    have b1 := hI.1
    have b2 := hI.2.1
    have r0 := hR.1
    have r1 := hR.2.1
    have b4 := xn_b (gSok hI h0 h1)
    have rt : v a (1052 + 13 * t) = xn (gs A t) := by { rw [gs_S h0 h1]; exact (hR.2.2.2 t h0 h1).1 }
    have hg := gfi_b hI h0 h1
    have hgl := gI_l hI hg.1 hg.2.1 hg.2.2.1
    have ew : w a = v a := hw a (by omega) (by omega) (by omega)
    have hK : (mv_m 128).1 = kc_Mod_costOfTemplate := rfl
    refine e_step (pc' := 19) hK rfl rfl rfl ?_
    refine e_step (pc' := 20) hK rfl rfl rfl ?_
    refine e_step (pc' := 21) hK rfl rfl rfl ?_
    refine e_cRS1 (z := 119) (pc' := 24) hK rfl rfl rfl (Nat.le_of_ble_eq_true rfl) (Nat.le_of_ble_eq_true rfl) (m_tempAt t) (by decide) rfl ?_
    try simp (disch := omega) only [mH_t64, mH_r1, mH_r3, mH_r4, mH_r5, mH_r6, mH_r8, mH_r9, mH_r10, mH_r11, mH_r12, mH_r14, mH_i0, mH_i2, mH_i7, mH_i13, mH_i15, mH_t71, mH_t, mH_lr, mH_l65, mH_l69, mH_l70, mH_l71, mH_l72, mH_l73, mH_l74, mH_l75, mH_c, ew, rt]
    refine e_iald (pc' := 25) hK rfl (by simp (disch := omega) only [mH_t64, mH_r1, mH_r3, mH_r4, mH_r5, mH_r6, mH_r8, mH_r9, mH_r10, mH_r11, mH_r12, mH_r14, mH_i0, mH_i2, mH_i7, mH_i13, mH_i15, mH_t71, mH_t, mH_lr, mH_l65, mH_l69, mH_l70, mH_l71, mH_l72, mH_l73, mH_l74, mH_l75, mH_c, ew, rt]) (by first | omega) (by (try simp (disch := omega) only [mH_t64, mH_r1, mH_r3, mH_r4, mH_r5, mH_r6, mH_r8, mH_r9, mH_r10, mH_r11, mH_r12, mH_r14, mH_i0, mH_i2, mH_i7, mH_i13, mH_i15, mH_t71, mH_t, mH_lr, mH_l65, mH_l69, mH_l70, mH_l71, mH_l72, mH_l73, mH_l74, mH_l75, mH_c, ew, rt]); first | omega) rfl ?_
    try simp (disch := omega) only [mH_t64, mH_r1, mH_r3, mH_r4, mH_r5, mH_r6, mH_r8, mH_r9, mH_r10, mH_r11, mH_r12, mH_r14, mH_i0, mH_i2, mH_i7, mH_i13, mH_i15, mH_t71, mH_t, mH_lr, mH_l65, mH_l69, mH_l70, mH_l71, mH_l72, mH_l73, mH_l74, mH_l75, mH_c, ew, rt]
    refine e_icmp (t := 59) (pc' := 28) hK rfl (by first | omega) (by first | omega) (by decide) rfl (fun hb25 => ?_) (fun hb25 => ?_)
    · replace hb25 := cq_ge.1.mp hb25
      refine e_step (pc' := 60) hK rfl rfl rfl ?_
      refine e_ret hK rfl rfl rfl ?_
      refine ⟨?_, rfl, w, rfl, hw⟩
      unfold cot
      rw [show (xn (gs A t)).toNat = k from by omega]
    · replace hb25 := cq_ge.2.mp hb25
      exfalso; first | omega | exact absurd trivial (by assumption) | (first | omega)
  | succ m ih =>
    intro k hk
    have b1 := hI.1
    have b2 := hI.2.1
    have r0 := hR.1
    have r1 := hR.2.1
    have b4 := xn_b (gSok hI h0 h1)
    have rt : v a (1052 + 13 * t) = xn (gs A t) := by { rw [gs_S h0 h1]; exact (hR.2.2.2 t h0 h1).1 }
    have hg := gfi_b hI h0 h1
    have hgl := gI_l hI hg.1 hg.2.1 hg.2.2.1
    have ew : w a = v a := hw a (by omega) (by omega) (by omega)
    have hK : (mv_m 128).1 = kc_Mod_costOfTemplate := rfl
    refine e_step (pc' := 19) hK rfl rfl rfl ?_
    refine e_step (pc' := 20) hK rfl rfl rfl ?_
    refine e_step (pc' := 21) hK rfl rfl rfl ?_
    refine e_cRS1 (z := 119) (pc' := 24) hK rfl rfl rfl (Nat.le_of_ble_eq_true rfl) (Nat.le_of_ble_eq_true rfl) (m_tempAt t) (by decide) rfl ?_
    try simp (disch := omega) only [mH_t64, mH_r1, mH_r3, mH_r4, mH_r5, mH_r6, mH_r8, mH_r9, mH_r10, mH_r11, mH_r12, mH_r14, mH_i0, mH_i2, mH_i7, mH_i13, mH_i15, mH_t71, mH_t, mH_lr, mH_l65, mH_l69, mH_l70, mH_l71, mH_l72, mH_l73, mH_l74, mH_l75, mH_c, ew, rt]
    refine e_iald (pc' := 25) hK rfl (by simp (disch := omega) only [mH_t64, mH_r1, mH_r3, mH_r4, mH_r5, mH_r6, mH_r8, mH_r9, mH_r10, mH_r11, mH_r12, mH_r14, mH_i0, mH_i2, mH_i7, mH_i13, mH_i15, mH_t71, mH_t, mH_lr, mH_l65, mH_l69, mH_l70, mH_l71, mH_l72, mH_l73, mH_l74, mH_l75, mH_c, ew, rt]) (by first | omega) (by (try simp (disch := omega) only [mH_t64, mH_r1, mH_r3, mH_r4, mH_r5, mH_r6, mH_r8, mH_r9, mH_r10, mH_r11, mH_r12, mH_r14, mH_i0, mH_i2, mH_i7, mH_i13, mH_i15, mH_t71, mH_t, mH_lr, mH_l65, mH_l69, mH_l70, mH_l71, mH_l72, mH_l73, mH_l74, mH_l75, mH_c, ew, rt]); first | omega) rfl ?_
    try simp (disch := omega) only [mH_t64, mH_r1, mH_r3, mH_r4, mH_r5, mH_r6, mH_r8, mH_r9, mH_r10, mH_r11, mH_r12, mH_r14, mH_i0, mH_i2, mH_i7, mH_i13, mH_i15, mH_t71, mH_t, mH_lr, mH_l65, mH_l69, mH_l70, mH_l71, mH_l72, mH_l73, mH_l74, mH_l75, mH_c, ew, rt]
    refine e_icmp (t := 59) (pc' := 28) hK rfl (by first | omega) (by first | omega) (by decide) rfl (fun hb25 => ?_) (fun hb25 => ?_)
    · replace hb25 := cq_ge.1.mp hb25
      exfalso; first | omega | exact absurd trivial (by assumption) | (first | omega)
    · replace hb25 := cq_ge.2.mp hb25
      have rk := (hR.2.2.2 t h0 h1).2 k (by omega) (by rw [← gs_S h0 h1]; omega)
      have kb := gk_i hI h0 h1 (show (0 : Int) ≤ k by omega) (by omega)
      have k3 := gI_k3 hI hg.1 hg.2.1 hg.2.2.1 (show (0 : Int) ≤ k by omega) (by omega)
      have zk := hp k (by omega) (by omega)
      refine e_step (pc' := 29) hK rfl rfl rfl ?_
      refine e_step (pc' := 30) hK rfl rfl rfl ?_
      refine e_step (pc' := 31) hK rfl rfl rfl ?_
      refine e_step (pc' := 33) hK rfl rfl rfl ?_
      refine e_cRS3 (z := 120) (pc' := 36) hK rfl rfl rfl (Nat.le_of_ble_eq_true rfl) (Nat.le_of_ble_eq_true rfl) (m_kindOf a ha t (k : Int) (by omega) (by omega)) (by decide) rfl ?_
      try simp (disch := omega) only [mH_t64, mH_r1, mH_r3, mH_r4, mH_r5, mH_r6, mH_r8, mH_r9, mH_r10, mH_r11, mH_r12, mH_r14, mH_i0, mH_i2, mH_i7, mH_i13, mH_i15, mH_t71, mH_t, mH_lr, mH_l65, mH_l69, mH_l70, mH_l71, mH_l72, mH_l73, mH_l74, mH_l75, mH_c, ew, rt, rk, zk]
      refine e_step (pc' := 37) hK rfl rfl rfl ?_
      refine e_icmp (t := 50) (pc' := 40) hK rfl (by first | omega) (by first | omega) (by decide) rfl (fun hb37 => ?_) (fun hb37 => ?_)
      · replace hb37 := cq_ge.1.mp hb37
        refine e_step (pc' := 51) hK rfl rfl rfl ?_
        refine e_step (pc' := 52) hK rfl rfl rfl ?_
        refine e_step (pc' := 53) hK rfl rfl rfl ?_
        try simp only [List.set_cons_zero, List.set_cons_succ]
        refine e_step (pc' := 56) hK rfl rfl rfl ?_
        try simp only [List.set_cons_zero, List.set_cons_succ]
        refine e_goto (t := 17) hK rfl (by decide) ?_
        have ec : csl1 A t k = true := by { unfold csl1; rw [Bool.or_eq_true, decide_eq_true_eq, decide_eq_true_eq]; omega }
        have e2 : lsum (fun p => if csl1 A t p = true then 1 else xz (gs A t) p) k + 1 = lsum (fun p => if csl1 A t p = true then 1 else xz (gs A t) p) (k + 1) := by { show _ = _ + (if csl1 A t k = true then 1 else xz (gs A t) k); rw [if_pos ec] }
        rw [e2]
        exact ih (k + 1) (by omega)
      · replace hb37 := cq_ge.2.mp hb37
        refine e_step (pc' := 41) hK rfl rfl rfl ?_
        refine e_getR (ci := 4) (k := 11) (pc' := 44) hK rfl (by simp (disch := omega) only [mH_t64, mH_r1, mH_r3, mH_r4, mH_r5, mH_r6, mH_r8, mH_r9, mH_r10, mH_r11, mH_r12, mH_r14, mH_i0, mH_i2, mH_i7, mH_i13, mH_i15, mH_t71, mH_t, mH_lr, mH_l65, mH_l69, mH_l70, mH_l71, mH_l72, mH_l73, mH_l74, mH_l75, mH_c, ew, rt, rk, zk]) rfl rfl (by decide) (by decide) (by (try simp (disch := omega) only [mH_t64, mH_r1, mH_r3, mH_r4, mH_r5, mH_r6, mH_r8, mH_r9, mH_r10, mH_r11, mH_r12, mH_r14, mH_i0, mH_i2, mH_i7, mH_i13, mH_i15, mH_t71, mH_t, mH_lr, mH_l65, mH_l69, mH_l70, mH_l71, mH_l72, mH_l73, mH_l74, mH_l75, mH_c, ew, rt, rk, zk]); first | omega) rfl ?_
        try simp (disch := omega) only [mH_t64, mH_r1, mH_r3, mH_r4, mH_r5, mH_r6, mH_r8, mH_r9, mH_r10, mH_r11, mH_r12, mH_r14, mH_i0, mH_i2, mH_i7, mH_i13, mH_i15, mH_t71, mH_t, mH_lr, mH_l65, mH_l69, mH_l70, mH_l71, mH_l72, mH_l73, mH_l74, mH_l75, mH_c, ew, rt, rk, zk]
        refine e_step (pc' := 46) hK rfl rfl rfl ?_
        refine e_iald (pc' := 47) hK rfl (by simp (disch := omega) only [mH_t64, mH_r1, mH_r3, mH_r4, mH_r5, mH_r6, mH_r8, mH_r9, mH_r10, mH_r11, mH_r12, mH_r14, mH_i0, mH_i2, mH_i7, mH_i13, mH_i15, mH_t71, mH_t, mH_lr, mH_l65, mH_l69, mH_l70, mH_l71, mH_l72, mH_l73, mH_l74, mH_l75, mH_c, ew, rt, rk, zk]) (by first | omega) (by (try simp (disch := omega) only [mH_t64, mH_r1, mH_r3, mH_r4, mH_r5, mH_r6, mH_r8, mH_r9, mH_r10, mH_r11, mH_r12, mH_r14, mH_i0, mH_i2, mH_i7, mH_i13, mH_i15, mH_t71, mH_t, mH_lr, mH_l65, mH_l69, mH_l70, mH_l71, mH_l72, mH_l73, mH_l74, mH_l75, mH_c, ew, rt, rk, zk]); first | omega) rfl ?_
        try simp (disch := omega) only [mH_t64, mH_r1, mH_r3, mH_r4, mH_r5, mH_r6, mH_r8, mH_r9, mH_r10, mH_r11, mH_r12, mH_r14, mH_i0, mH_i2, mH_i7, mH_i13, mH_i15, mH_t71, mH_t, mH_lr, mH_l65, mH_l69, mH_l70, mH_l71, mH_l72, mH_l73, mH_l74, mH_l75, mH_c, ew, rt, rk, zk]
        refine e_goto (t := 51) hK rfl (by decide) ?_
        refine e_step (pc' := 52) hK rfl rfl rfl ?_
        refine e_step (pc' := 53) hK rfl rfl rfl ?_
        try simp only [List.set_cons_zero, List.set_cons_succ]
        refine e_step (pc' := 56) hK rfl rfl rfl ?_
        try simp only [List.set_cons_zero, List.set_cons_succ]
        refine e_goto (t := 17) hK rfl (by decide) ?_
        have ec : ¬ csl1 A t k = true := by { unfold csl1; rw [Bool.or_eq_true, decide_eq_true_eq, decide_eq_true_eq]; omega }
        have e2 : lsum (fun p => if csl1 A t p = true then 1 else xz (gs A t) p) k + xz (gL A (gfi A t)) k = lsum (fun p => if csl1 A t p = true then 1 else xz (gs A t) p) (k + 1) := by { show _ = _ + (if csl1 A t k = true then 1 else xz (gs A t) k); rw [if_neg ec, xw_z (k3.2.2 (by omega)).2] }
        rw [e2]
        exact ih (k + 1) (by omega)
set_option maxRecDepth 10000 in
theorem m_costTemp (a : Int) (ha : 266 ≤ a ∧ a ≤ 268) {A : lg} (hR : Rw (v a) A) (hI : gI A) (t : Int) (h0 : 0 ≤ t) (h1 : t < gT A) : mv_Cl sc q_Mod_costOfTemplate [(2, 264), (2, a), (0, t)] c (mH h v) (mv_Ms h v (cot A t) c) := by
  have b1 := hI.1
  have b2 := hI.2.1
  have r0 := hR.1
  have r1 := hR.2.1
  have b4 := xn_b (gSok hI h0 h1)
  have rt : v a (1052 + 13 * t) = xn (gs A t) := by { rw [gs_S h0 h1]; exact (hR.2.2.2 t h0 h1).1 }
  have hg := gfi_b hI h0 h1
  have hgl := gI_l hI hg.1 hg.2.1 hg.2.2.1
  show mv_Ev sc 128 0 [(2, 264), (2, a), (0, t), (5, 0), (5, 0)] [] c (mH h v) _
  have hK : (mv_m 128).1 = kc_Mod_costOfTemplate := rfl
  refine e_step (pc' := 1) hK rfl rfl rfl ?_
  refine e_step (pc' := 2) hK rfl rfl rfl ?_
  refine e_step (pc' := 3) hK rfl rfl rfl ?_
  refine e_step (pc' := 4) hK rfl rfl rfl ?_
  refine e_cRS2 (z := 129) (pc' := 7) hK rfl rfl rfl (Nat.le_of_ble_eq_true rfl) (Nat.le_of_ble_eq_true rfl) (m_first a ha hR hI t h0 h1) (by decide) rfl ?_
  try simp (disch := omega) only [mH_t64, mH_r1, mH_r3, mH_r4, mH_r5, mH_r6, mH_r8, mH_r9, mH_r10, mH_r11, mH_r12, mH_r14, mH_i0, mH_i2, mH_i7, mH_i13, mH_i15, mH_t71, mH_t, mH_lr, mH_l65, mH_l69, mH_l70, mH_l71, mH_l72, mH_l73, mH_l74, mH_l75, mH_c]
  refine e_step (pc' := 8) hK rfl rfl rfl ?_
  refine e_cQV4 (z := 123) hK rfl rfl (by first | (simp (disch := omega) only [mH_t64, mH_r1, mH_r3, mH_r4, mH_r5, mH_r6, mH_r8, mH_r9, mH_r10, mH_r11, mH_r12, mH_r14, mH_i0, mH_i2, mH_i7, mH_i13, mH_i15, mH_t71, mH_t, mH_lr, mH_l65, mH_l69, mH_l70, mH_l71, mH_l72, mH_l73, mH_l74, mH_l75, mH_c]; rfl) | (show _ = 2; assumption) | (show _ = 1; assumption) | (show _ = 0; assumption) | (show _ = 3; assumption) | (show _ = 4; assumption)) rfl (Nat.le_of_ble_eq_true rfl) (Nat.le_of_ble_eq_true rfl) (m_cut a ha (gfi A t) 0 ⟨hg.1, by omega⟩ (Or.inl rfl) hgl.2.2.1 (hR.2.2.1 _ hg.1 hg.2.1).1) ?_
  rintro _ _ _ ⟨rfl, rfl, w, rfl, hw, kw⟩
  refine ⟨by show (0 : Nat) ≠ 4; decide, ?_⟩
  rw [if_neg (by show ¬ (0 : Nat) = 3; decide)]
  try dsimp only
  show mv_Ev _ _ 11 _ _ _ _ _
  refine e_step (pc' := 12) hK rfl rfl rfl ?_
  refine e_step (pc' := 13) hK rfl rfl rfl ?_
  refine e_step (pc' := 14) hK rfl rfl rfl ?_
  try simp only [List.set_cons_zero, List.set_cons_succ]
  refine e_step (pc' := 15) hK rfl rfl rfl ?_
  refine e_step (pc' := 17) hK rfl rfl rfl ?_
  try simp only [List.set_cons_zero, List.set_cons_succ]
  exact m_costTemp1 a ha hR hI t h0 h1 w hw.1 (fun p p0 p1 => by { have := (Ct_x kw p0 (by rw [hgl.2.2.2.1]; exact p1)).2.1; rw [Int.zero_add] at this; exact this }) (xn (gs A t)).toNat 0 (by omega)
set_option maxRecDepth 10000 in
theorem m_costLines1 (a : Int) (ha : 266 ≤ a ∧ a ≤ 268) {A : lg} (hR : Rw (v a) A) (hI : gI A) : ∀ (m : Nat) (k : Nat) (w : mvt), (k + m = gn A ∧ ms v w) → mv_Ev sc 117 4 [(2, 264), (2, a), (0, lsum (fun i => col A (gl A i) (gt A i) i) k), (0, (k : Int))] [] c (mH h w) (mv_Ms h v (cols A) c) := by
  intro m
  induction m with
  | zero =>
    intro k w ⟨hk, hw⟩
    have b1 := hI.1
    have b2 := hI.2.1
    have r0 := hR.1
    have r1 := hR.2.1
    have ew : w a = v a := hw a (by omega) (by omega) (by omega)
    have hRw : Rw (w a) A := by { rw [ew]; exact hR }
    have hK : (mv_m 117).1 = kc_Mod_costOfLines := rfl
    refine e_step (pc' := 5) hK rfl rfl rfl ?_
    refine e_step (pc' := 6) hK rfl rfl rfl ?_
    refine e_step (pc' := 7) hK rfl rfl rfl ?_
    refine e_iald (pc' := 8) hK rfl (by simp (disch := omega) only [mH_t64, mH_r1, mH_r3, mH_r4, mH_r5, mH_r6, mH_r8, mH_r9, mH_r10, mH_r11, mH_r12, mH_r14, mH_i0, mH_i2, mH_i7, mH_i13, mH_i15, mH_t71, mH_t, mH_lr, mH_l65, mH_l69, mH_l70, mH_l71, mH_l72, mH_l73, mH_l74, mH_l75, mH_c, ew, r0]) (by first | omega) (by (try simp (disch := omega) only [mH_t64, mH_r1, mH_r3, mH_r4, mH_r5, mH_r6, mH_r8, mH_r9, mH_r10, mH_r11, mH_r12, mH_r14, mH_i0, mH_i2, mH_i7, mH_i13, mH_i15, mH_t71, mH_t, mH_lr, mH_l65, mH_l69, mH_l70, mH_l71, mH_l72, mH_l73, mH_l74, mH_l75, mH_c, ew, r0]); first | omega) rfl ?_
    try simp (disch := omega) only [mH_t64, mH_r1, mH_r3, mH_r4, mH_r5, mH_r6, mH_r8, mH_r9, mH_r10, mH_r11, mH_r12, mH_r14, mH_i0, mH_i2, mH_i7, mH_i13, mH_i15, mH_t71, mH_t, mH_lr, mH_l65, mH_l69, mH_l70, mH_l71, mH_l72, mH_l73, mH_l74, mH_l75, mH_c, ew, r0]
    refine e_icmp (t := 26) (pc' := 11) hK rfl (by first | omega) (by first | omega) (by decide) rfl (fun hb8 => ?_) (fun hb8 => ?_)
    · replace hb8 := cq_ge.1.mp hb8
      refine e_step (pc' := 27) hK rfl rfl rfl ?_
      refine e_ret hK rfl rfl rfl ?_
      refine ⟨?_, rfl, w, rfl, hw⟩
      rw [show k = gn A from by omega]
      rfl
    · replace hb8 := cq_ge.2.mp hb8
      exfalso; first | omega | exact absurd trivial (by assumption) | (first | omega)
  | succ m ih =>
    intro k w ⟨hk, hw⟩
    have b1 := hI.1
    have b2 := hI.2.1
    have r0 := hR.1
    have r1 := hR.2.1
    have ew : w a = v a := hw a (by omega) (by omega) (by omega)
    have hRw : Rw (w a) A := by { rw [ew]; exact hR }
    have hK : (mv_m 117).1 = kc_Mod_costOfLines := rfl
    refine e_step (pc' := 5) hK rfl rfl rfl ?_
    refine e_step (pc' := 6) hK rfl rfl rfl ?_
    refine e_step (pc' := 7) hK rfl rfl rfl ?_
    refine e_iald (pc' := 8) hK rfl (by simp (disch := omega) only [mH_t64, mH_r1, mH_r3, mH_r4, mH_r5, mH_r6, mH_r8, mH_r9, mH_r10, mH_r11, mH_r12, mH_r14, mH_i0, mH_i2, mH_i7, mH_i13, mH_i15, mH_t71, mH_t, mH_lr, mH_l65, mH_l69, mH_l70, mH_l71, mH_l72, mH_l73, mH_l74, mH_l75, mH_c, ew, r0]) (by first | omega) (by (try simp (disch := omega) only [mH_t64, mH_r1, mH_r3, mH_r4, mH_r5, mH_r6, mH_r8, mH_r9, mH_r10, mH_r11, mH_r12, mH_r14, mH_i0, mH_i2, mH_i7, mH_i13, mH_i15, mH_t71, mH_t, mH_lr, mH_l65, mH_l69, mH_l70, mH_l71, mH_l72, mH_l73, mH_l74, mH_l75, mH_c, ew, r0]); first | omega) rfl ?_
    try simp (disch := omega) only [mH_t64, mH_r1, mH_r3, mH_r4, mH_r5, mH_r6, mH_r8, mH_r9, mH_r10, mH_r11, mH_r12, mH_r14, mH_i0, mH_i2, mH_i7, mH_i13, mH_i15, mH_t71, mH_t, mH_lr, mH_l65, mH_l69, mH_l70, mH_l71, mH_l72, mH_l73, mH_l74, mH_l75, mH_c, ew, r0]
    refine e_icmp (t := 26) (pc' := 11) hK rfl (by first | omega) (by first | omega) (by decide) rfl (fun hb8 => ?_) (fun hb8 => ?_)
    · replace hb8 := cq_ge.1.mp hb8
      exfalso; first | omega | exact absurd trivial (by assumption) | (first | omega)
    · replace hb8 := cq_ge.2.mp hb8
      refine e_step (pc' := 12) hK rfl rfl rfl ?_
      refine e_step (pc' := 13) hK rfl rfl rfl ?_
      refine e_step (pc' := 14) hK rfl rfl rfl ?_
      refine e_step (pc' := 15) hK rfl rfl rfl ?_
      refine e_cQV3 (z := 118) hK rfl rfl (by first | (simp (disch := omega) only [mH_t64, mH_r1, mH_r3, mH_r4, mH_r5, mH_r6, mH_r8, mH_r9, mH_r10, mH_r11, mH_r12, mH_r14, mH_i0, mH_i2, mH_i7, mH_i13, mH_i15, mH_t71, mH_t, mH_lr, mH_l65, mH_l69, mH_l70, mH_l71, mH_l72, mH_l73, mH_l74, mH_l75, mH_c, ew, r0]; rfl) | (show _ = 2; assumption) | (show _ = 1; assumption) | (show _ = 0; assumption) | (show _ = 3; assumption) | (show _ = 4; assumption)) rfl (Nat.le_of_ble_eq_true rfl) (Nat.le_of_ble_eq_true rfl) (m_costLine a ha hRw hI (gP A (k : Int)) (k : Int) (by omega) (by omega) rfl) ?_
      rintro _ _ _ ⟨rfl, rfl, u, rfl, hu⟩
      refine ⟨by show (0 : Nat) ≠ 4; decide, ?_⟩
      rw [if_neg (by show ¬ (0 : Nat) = 3; decide)]
      try dsimp only
      show mv_Ev _ _ 18 _ _ _ _ _
      refine e_step (pc' := 19) hK rfl rfl rfl ?_
      refine e_step (pc' := 20) hK rfl rfl rfl ?_
      try simp only [List.set_cons_zero, List.set_cons_succ]
      refine e_step (pc' := 23) hK rfl rfl rfl ?_
      try simp only [List.set_cons_zero, List.set_cons_succ]
      refine e_goto (t := 4) hK rfl (by decide) ?_
      have e2 : lsum (fun i => col A (gl A i) (gt A i) i) k + col A (gL A (k : Int)) (gP A (k : Int)) (k : Int) = lsum (fun i => col A (gl A i) (gt A i) i) (k + 1) := by { show _ = _ + col A (gl A (k : Int)) (gt A (k : Int)) (k : Int); rw [gl_L (by omega) (by omega), gt_P (by omega) (by omega)]; try rfl }
      rw [e2]
      exact ih (k + 1) u ⟨by omega, ms_t hw hu⟩
set_option maxRecDepth 10000 in
theorem m_costLines (a : Int) (ha : 266 ≤ a ∧ a ≤ 268) {A : lg} (hR : Rw (v a) A) (hI : gI A) : mv_Cl sc q_Mod_costOfLines [(2, 264), (2, a)] c (mH h v) (mv_Ms h v (cols A) c) := by
  show mv_Ev sc 117 0 [(2, 264), (2, a), (5, 0), (5, 0)] [] c (mH h v) _
  have hK : (mv_m 117).1 = kc_Mod_costOfLines := rfl
  refine e_step (pc' := 1) hK rfl rfl rfl ?_
  refine e_step (pc' := 2) hK rfl rfl rfl ?_
  try simp only [List.set_cons_zero, List.set_cons_succ]
  refine e_step (pc' := 3) hK rfl rfl rfl ?_
  refine e_step (pc' := 4) hK rfl rfl rfl ?_
  try simp only [List.set_cons_zero, List.set_cons_succ]
  exact m_costLines1 a ha hR hI (gn A) 0 v ⟨by omega, ms_r v⟩
set_option maxRecDepth 10000 in
theorem m_costTemps1 (a : Int) (ha : 266 ≤ a ∧ a ≤ 268) {A : lg} (hR : Rw (v a) A) (hI : gI A) : ∀ (m : Nat) (k : Nat) (w : mvt), (k + m = gT A ∧ ms v w) → mv_Ev sc 127 4 [(2, 264), (2, a), (0, lsum (fun t => cot A t) k), (0, (k : Int))] [] c (mH h w) (mv_Ms h v (cots A) c) := by
  intro m
  induction m with
  | zero =>
    intro k w ⟨hk, hw⟩
    have b1 := hI.1
    have b2 := hI.2.1
    have r0 := hR.1
    have r1 := hR.2.1
    have ew : w a = v a := hw a (by omega) (by omega) (by omega)
    have hRw : Rw (w a) A := by { rw [ew]; exact hR }
    have hK : (mv_m 127).1 = kc_Mod_costOfTemplates := rfl
    refine e_step (pc' := 5) hK rfl rfl rfl ?_
    refine e_step (pc' := 6) hK rfl rfl rfl ?_
    refine e_step (pc' := 7) hK rfl rfl rfl ?_
    refine e_iald (pc' := 8) hK rfl (by simp (disch := omega) only [mH_t64, mH_r1, mH_r3, mH_r4, mH_r5, mH_r6, mH_r8, mH_r9, mH_r10, mH_r11, mH_r12, mH_r14, mH_i0, mH_i2, mH_i7, mH_i13, mH_i15, mH_t71, mH_t, mH_lr, mH_l65, mH_l69, mH_l70, mH_l71, mH_l72, mH_l73, mH_l74, mH_l75, mH_c, ew, r1]) (by first | omega) (by (try simp (disch := omega) only [mH_t64, mH_r1, mH_r3, mH_r4, mH_r5, mH_r6, mH_r8, mH_r9, mH_r10, mH_r11, mH_r12, mH_r14, mH_i0, mH_i2, mH_i7, mH_i13, mH_i15, mH_t71, mH_t, mH_lr, mH_l65, mH_l69, mH_l70, mH_l71, mH_l72, mH_l73, mH_l74, mH_l75, mH_c, ew, r1]); first | omega) rfl ?_
    try simp (disch := omega) only [mH_t64, mH_r1, mH_r3, mH_r4, mH_r5, mH_r6, mH_r8, mH_r9, mH_r10, mH_r11, mH_r12, mH_r14, mH_i0, mH_i2, mH_i7, mH_i13, mH_i15, mH_t71, mH_t, mH_lr, mH_l65, mH_l69, mH_l70, mH_l71, mH_l72, mH_l73, mH_l74, mH_l75, mH_c, ew, r1]
    refine e_icmp (t := 26) (pc' := 11) hK rfl (by first | omega) (by first | omega) (by decide) rfl (fun hb8 => ?_) (fun hb8 => ?_)
    · replace hb8 := cq_ge.1.mp hb8
      refine e_step (pc' := 27) hK rfl rfl rfl ?_
      refine e_ret hK rfl rfl rfl ?_
      refine ⟨?_, rfl, w, rfl, hw⟩
      rw [show k = gT A from by omega]
      rfl
    · replace hb8 := cq_ge.2.mp hb8
      exfalso; first | omega | exact absurd trivial (by assumption) | (first | omega)
  | succ m ih =>
    intro k w ⟨hk, hw⟩
    have b1 := hI.1
    have b2 := hI.2.1
    have r0 := hR.1
    have r1 := hR.2.1
    have ew : w a = v a := hw a (by omega) (by omega) (by omega)
    have hRw : Rw (w a) A := by { rw [ew]; exact hR }
    have hK : (mv_m 127).1 = kc_Mod_costOfTemplates := rfl
    refine e_step (pc' := 5) hK rfl rfl rfl ?_
    refine e_step (pc' := 6) hK rfl rfl rfl ?_
    refine e_step (pc' := 7) hK rfl rfl rfl ?_
    refine e_iald (pc' := 8) hK rfl (by simp (disch := omega) only [mH_t64, mH_r1, mH_r3, mH_r4, mH_r5, mH_r6, mH_r8, mH_r9, mH_r10, mH_r11, mH_r12, mH_r14, mH_i0, mH_i2, mH_i7, mH_i13, mH_i15, mH_t71, mH_t, mH_lr, mH_l65, mH_l69, mH_l70, mH_l71, mH_l72, mH_l73, mH_l74, mH_l75, mH_c, ew, r1]) (by first | omega) (by (try simp (disch := omega) only [mH_t64, mH_r1, mH_r3, mH_r4, mH_r5, mH_r6, mH_r8, mH_r9, mH_r10, mH_r11, mH_r12, mH_r14, mH_i0, mH_i2, mH_i7, mH_i13, mH_i15, mH_t71, mH_t, mH_lr, mH_l65, mH_l69, mH_l70, mH_l71, mH_l72, mH_l73, mH_l74, mH_l75, mH_c, ew, r1]); first | omega) rfl ?_
    try simp (disch := omega) only [mH_t64, mH_r1, mH_r3, mH_r4, mH_r5, mH_r6, mH_r8, mH_r9, mH_r10, mH_r11, mH_r12, mH_r14, mH_i0, mH_i2, mH_i7, mH_i13, mH_i15, mH_t71, mH_t, mH_lr, mH_l65, mH_l69, mH_l70, mH_l71, mH_l72, mH_l73, mH_l74, mH_l75, mH_c, ew, r1]
    refine e_icmp (t := 26) (pc' := 11) hK rfl (by first | omega) (by first | omega) (by decide) rfl (fun hb8 => ?_) (fun hb8 => ?_)
    · replace hb8 := cq_ge.1.mp hb8
      exfalso; first | omega | exact absurd trivial (by assumption) | (first | omega)
    · replace hb8 := cq_ge.2.mp hb8
      refine e_step (pc' := 12) hK rfl rfl rfl ?_
      refine e_step (pc' := 13) hK rfl rfl rfl ?_
      refine e_step (pc' := 14) hK rfl rfl rfl ?_
      refine e_step (pc' := 15) hK rfl rfl rfl ?_
      refine e_cQV3 (z := 128) hK rfl rfl (by first | (simp (disch := omega) only [mH_t64, mH_r1, mH_r3, mH_r4, mH_r5, mH_r6, mH_r8, mH_r9, mH_r10, mH_r11, mH_r12, mH_r14, mH_i0, mH_i2, mH_i7, mH_i13, mH_i15, mH_t71, mH_t, mH_lr, mH_l65, mH_l69, mH_l70, mH_l71, mH_l72, mH_l73, mH_l74, mH_l75, mH_c, ew, r1]; rfl) | (show _ = 2; assumption) | (show _ = 1; assumption) | (show _ = 0; assumption) | (show _ = 3; assumption) | (show _ = 4; assumption)) rfl (Nat.le_of_ble_eq_true rfl) (Nat.le_of_ble_eq_true rfl) (m_costTemp a ha hRw hI (k : Int) (by omega) (by omega)) ?_
      rintro _ _ _ ⟨rfl, rfl, u, rfl, hu⟩
      refine ⟨by show (0 : Nat) ≠ 4; decide, ?_⟩
      rw [if_neg (by show ¬ (0 : Nat) = 3; decide)]
      try dsimp only
      show mv_Ev _ _ 18 _ _ _ _ _
      refine e_step (pc' := 19) hK rfl rfl rfl ?_
      refine e_step (pc' := 20) hK rfl rfl rfl ?_
      try simp only [List.set_cons_zero, List.set_cons_succ]
      refine e_step (pc' := 23) hK rfl rfl rfl ?_
      try simp only [List.set_cons_zero, List.set_cons_succ]
      refine e_goto (t := 4) hK rfl (by decide) ?_
      have e2 : lsum (fun t => cot A t) k + cot A (k : Int) = lsum (fun t => cot A t) (k + 1) := by { rfl }
      rw [e2]
      exact ih (k + 1) u ⟨by omega, ms_t hw hu⟩
set_option maxRecDepth 10000 in
theorem m_costTemps (a : Int) (ha : 266 ≤ a ∧ a ≤ 268) {A : lg} (hR : Rw (v a) A) (hI : gI A) : mv_Cl sc q_Mod_costOfTemplates [(2, 264), (2, a)] c (mH h v) (mv_Ms h v (cots A) c) := by
  show mv_Ev sc 127 0 [(2, 264), (2, a), (5, 0), (5, 0)] [] c (mH h v) _
  have hK : (mv_m 127).1 = kc_Mod_costOfTemplates := rfl
  refine e_step (pc' := 1) hK rfl rfl rfl ?_
  refine e_step (pc' := 2) hK rfl rfl rfl ?_
  try simp only [List.set_cons_zero, List.set_cons_succ]
  refine e_step (pc' := 3) hK rfl rfl rfl ?_
  refine e_step (pc' := 4) hK rfl rfl rfl ?_
  try simp only [List.set_cons_zero, List.set_cons_succ]
  exact m_costTemps1 a ha hR hI (gT A) 0 v ⟨by omega, ms_r v⟩
set_option maxRecDepth 10000 in
theorem m_newWI (a : Int) (ha : 266 ≤ a ∧ a ≤ 268) {A : lg} (hR : Rw (v a) A) (hI : gI A) (i q : Int) (hi0 : 0 ≤ i) (hi1 : i < gn A) (hq0 : 0 ≤ q) (hq1 : q < xn (gl A i)) (hk0 : xk (gl A i) q = 0) (j : Int) (hj0 : 0 ≤ j) (hj1 : j ≤ i) (w : mvt) (hw : Cf v w 12) (hp : Pc w (v a) q i (gl A i) q) (hy : ∀ r : Int, 0 ≤ r → r < xn (gl A j) → Pc w (v a) (12 + r) j (gl A j) r) (K : lo (fun q2 => xw (gl A i) q (gl A j) q2) (cwe A i q j).toNat = false → ∀ (a5 a6 : mv_V), mv_Ev sc 131 77 [(2, 264), (2, a), (0, i), (0, q), (0, j), a5, a6] [] c (mH h w) (mv_M12 h v (mv_bo (!cwb A i q)) c)) : ∀ (m : Nat) (k : Nat), (k + m = (cwe A i q j).toNat ∧ lo (fun q2 => xw (gl A i) q (gl A j) q2) k = false) → mv_Ev sc 131 23 [(2, 264), (2, a), (0, i), (0, q), (0, j), (0, xn (gl A j)), (0, (k : Int))] [] c (mH h w) (mv_M12 h v (mv_bo (!cwb A i q)) c) := by
  intro m
  induction m with
  | zero =>
    intro k ⟨hk, hlo⟩
    have b1 := hI.1
    have b2 := hI.2.1
    have r0 := hR.1
    have r1 := hR.2.1
    have hlx := gLok hI hi0 hi1
    have b3 := xn_b hlx
    have eg := gl_L hi0 hi1
    have ew : w a = v a := hw.1 a (by omega) (by omega) (by omega)
    have bj := xn_b (gLok hI hj0 (show j < gn A by omega))
    have ej := gl_L (A := A) hj0 (show j < gn A by omega)
    rw [← ej] at bj
    have ce : (j = i → cwe A i q j = q) ∧ (j ≠ i → cwe A i q j = xn (gl A j)) := ⟨fun e => if_pos e, fun e => if_neg e⟩
    have ce2 : j = i → xn (gl A j) = xn (gl A i) := fun e => by rw [e]
    have hK : (mv_m 131).1 = kc_Mod_isNewWord := rfl
    refine e_step (pc' := 25) hK rfl rfl rfl ?_
    refine e_step (pc' := 27) hK rfl rfl rfl ?_
    refine e_icmp (t := 77) (pc' := 30) hK rfl (by first | omega | exact bo_i _) (by first | omega | exact bo_i _) (by decide) rfl (fun hb27 => ?_) (fun hb27 => ?_)
    · replace hb27 := cq_ge.1.mp hb27
      try simp only [bo_0, Bool.not_eq_false] at hb27
      exact K (by { rw [show (cwe A i q j).toNat = k from by omega]; exact hlo }) _ _
    · replace hb27 := cq_ge.2.mp hb27
      try simp only [bo_0, Bool.not_eq_false] at hb27
      refine e_step (pc' := 32) hK rfl rfl rfl ?_
      refine e_step (pc' := 33) hK rfl rfl rfl ?_
      refine e_icmp (t := 42) (pc' := 36) hK rfl (by first | omega | exact bo_i _) (by first | omega | exact bo_i _) (by decide) rfl (fun hb33 => ?_) (fun hb33 => ?_)
      · replace hb33 := cq_lt.1.mp hb33
        try simp only [bo_0, Bool.not_eq_false] at hb33
        exfalso; first | omega | exact absurd trivial (by assumption) | (first | omega | exact bo_i _)
      · replace hb33 := cq_lt.2.mp hb33
        try simp only [bo_0, Bool.not_eq_false] at hb33
        refine e_step (pc' := 38) hK rfl rfl rfl ?_
        refine e_step (pc' := 39) hK rfl rfl rfl ?_
        refine e_icmp (t := 77) (pc' := 42) hK rfl (by first | omega | exact bo_i _) (by first | omega | exact bo_i _) (by decide) rfl (fun hb39 => ?_) (fun hb39 => ?_)
        · replace hb39 := cq_ge.1.mp hb39
          try simp only [bo_0, Bool.not_eq_false] at hb39
          exact K (by { rw [show (cwe A i q j).toNat = k from by omega]; exact hlo }) _ _
        · replace hb39 := cq_ge.2.mp hb39
          try simp only [bo_0, Bool.not_eq_false] at hb39
          exfalso; first | omega | exact absurd trivial (by assumption) | (first | omega | exact bo_i _)
  | succ m ih =>
    intro k ⟨hk, hlo⟩
    have b1 := hI.1
    have b2 := hI.2.1
    have r0 := hR.1
    have r1 := hR.2.1
    have hlx := gLok hI hi0 hi1
    have b3 := xn_b hlx
    have eg := gl_L hi0 hi1
    have ew : w a = v a := hw.1 a (by omega) (by omega) (by omega)
    have bj := xn_b (gLok hI hj0 (show j < gn A by omega))
    have ej := gl_L (A := A) hj0 (show j < gn A by omega)
    rw [← ej] at bj
    have ce : (j = i → cwe A i q j = q) ∧ (j ≠ i → cwe A i q j = xn (gl A j)) := ⟨fun e => if_pos e, fun e => if_neg e⟩
    have ce2 : j = i → xn (gl A j) = xn (gl A i) := fun e => by rw [e]
    have hK : (mv_m 131).1 = kc_Mod_isNewWord := rfl
    refine e_step (pc' := 25) hK rfl rfl rfl ?_
    refine e_step (pc' := 27) hK rfl rfl rfl ?_
    refine e_icmp (t := 77) (pc' := 30) hK rfl (by first | omega | exact bo_i _) (by first | omega | exact bo_i _) (by decide) rfl (fun hb27 => ?_) (fun hb27 => ?_)
    · replace hb27 := cq_ge.1.mp hb27
      try simp only [bo_0, Bool.not_eq_false] at hb27
      exfalso; first | omega | exact absurd trivial (by assumption) | (first | omega | exact bo_i _)
    · replace hb27 := cq_ge.2.mp hb27
      try simp only [bo_0, Bool.not_eq_false] at hb27
      refine e_step (pc' := 32) hK rfl rfl rfl ?_
      refine e_step (pc' := 33) hK rfl rfl rfl ?_
      refine e_icmp (t := 42) (pc' := 36) hK rfl (by first | omega | exact bo_i _) (by first | omega | exact bo_i _) (by decide) rfl (fun hb33 => ?_) (fun hb33 => ?_)
      · replace hb33 := cq_lt.1.mp hb33
        try simp only [bo_0, Bool.not_eq_false] at hb33
        have hyk := hy k (by omega) (by omega)
        have zk := hyk.2.2.2.2
        have bk := Pc_b hyk
        refine e_step (pc' := 43) hK rfl rfl rfl ?_
        refine e_getR (ci := 4) (k := 12) (pc' := 46) hK rfl (by simp (disch := omega) only [mH_t64, mH_r1, mH_r3, mH_r4, mH_r5, mH_r6, mH_r8, mH_r9, mH_r10, mH_r11, mH_r12, mH_r14, mH_i0, mH_i2, mH_i7, mH_i13, mH_i15, mH_t71, mH_t, mH_lr, mH_l65, mH_l69, mH_l70, mH_l71, mH_l72, mH_l73, mH_l74, mH_l75, mH_c, ew, zk]) rfl rfl (by decide) (by decide) (by (try simp (disch := omega) only [mH_t64, mH_r1, mH_r3, mH_r4, mH_r5, mH_r6, mH_r8, mH_r9, mH_r10, mH_r11, mH_r12, mH_r14, mH_i0, mH_i2, mH_i7, mH_i13, mH_i15, mH_t71, mH_t, mH_lr, mH_l65, mH_l69, mH_l70, mH_l71, mH_l72, mH_l73, mH_l74, mH_l75, mH_c, ew, zk]); first | omega | exact bo_i _) rfl ?_
        try simp (disch := omega) only [mH_t64, mH_r1, mH_r3, mH_r4, mH_r5, mH_r6, mH_r8, mH_r9, mH_r10, mH_r11, mH_r12, mH_r14, mH_i0, mH_i2, mH_i7, mH_i13, mH_i15, mH_t71, mH_t, mH_lr, mH_l65, mH_l69, mH_l70, mH_l71, mH_l72, mH_l73, mH_l74, mH_l75, mH_c, ew, zk]
        refine e_step (pc' := 48) hK rfl rfl rfl ?_
        refine e_step (pc' := 50) hK rfl rfl rfl ?_
        refine e_step (pc' := 51) hK rfl rfl rfl ?_
        refine e_iald (pc' := 52) hK rfl (by simp (disch := omega) only [mH_t64, mH_r1, mH_r3, mH_r4, mH_r5, mH_r6, mH_r8, mH_r9, mH_r10, mH_r11, mH_r12, mH_r14, mH_i0, mH_i2, mH_i7, mH_i13, mH_i15, mH_t71, mH_t, mH_lr, mH_l65, mH_l69, mH_l70, mH_l71, mH_l72, mH_l73, mH_l74, mH_l75, mH_c, ew, zk]) (by first | omega | exact bo_i _) (by (try simp (disch := omega) only [mH_t64, mH_r1, mH_r3, mH_r4, mH_r5, mH_r6, mH_r8, mH_r9, mH_r10, mH_r11, mH_r12, mH_r14, mH_i0, mH_i2, mH_i7, mH_i13, mH_i15, mH_t71, mH_t, mH_lr, mH_l65, mH_l69, mH_l70, mH_l71, mH_l72, mH_l73, mH_l74, mH_l75, mH_c, ew, zk]); first | omega | exact bo_i _) rfl ?_
        try simp (disch := omega) only [mH_t64, mH_r1, mH_r3, mH_r4, mH_r5, mH_r6, mH_r8, mH_r9, mH_r10, mH_r11, mH_r12, mH_r14, mH_i0, mH_i2, mH_i7, mH_i13, mH_i15, mH_t71, mH_t, mH_lr, mH_l65, mH_l69, mH_l70, mH_l71, mH_l72, mH_l73, mH_l74, mH_l75, mH_c, ew, zk]
        refine e_if (t := 71) (pc' := 55) hK rfl (by first | omega | exact bo_i _) (by decide) rfl (fun hb52 => ?_) (fun hb52 => ?_)
        · replace hb52 := cq_ne.1.mp hb52
          try simp only [bo_0, Bool.not_eq_false] at hb52
          refine e_step (pc' := 74) hK rfl rfl rfl ?_
          try simp only [List.set_cons_zero, List.set_cons_succ]
          refine e_goto (t := 23) hK rfl (by decide) ?_
          have ex : xw (gl A i) q (gl A j) k = false := by { cases e9 : xw (gl A i) q (gl A j) k with | false => rfl | true => { have := xw_k (by rw [eg]; exact hlx) (by rw [gl_L hj0 (by omega)]; exact gLok hI hj0 (by omega)) e9; omega } }
          exact ih (k + 1) ⟨by omega, lo_s hlo ex⟩
        · replace hb52 := cq_ne.2.mp hb52
          try simp only [bo_0, Bool.not_eq_false] at hb52
          refine e_step (pc' := 56) hK rfl rfl rfl ?_
          refine e_step (pc' := 57) hK rfl rfl rfl ?_
          refine e_step (pc' := 58) hK rfl rfl rfl ?_
          refine e_step (pc' := 60) hK rfl rfl rfl ?_
          refine e_step (pc' := 62) hK rfl rfl rfl ?_
          refine e_step (pc' := 63) hK rfl rfl rfl ?_
          refine e_cRV4 (z := 126) (pc' := 66) hK rfl rfl (by first | (simp (disch := omega) only [mH_t64, mH_r1, mH_r3, mH_r4, mH_r5, mH_r6, mH_r8, mH_r9, mH_r10, mH_r11, mH_r12, mH_r14, mH_i0, mH_i2, mH_i7, mH_i13, mH_i15, mH_t71, mH_t, mH_lr, mH_l65, mH_l69, mH_l70, mH_l71, mH_l72, mH_l73, mH_l74, mH_l75, mH_c, ew, zk]; rfl) | (show _ = 2; assumption) | (show _ = 1; assumption) | (show _ = 0; assumption) | (show _ = 3; assumption) | (show _ = 4; assumption)) rfl (Nat.le_of_ble_eq_true rfl) (Nat.le_of_ble_eq_true rfl) (m_same a ha (by rw [ew]; exact hp) (by rw [ew]; exact hyk)) (by decide) rfl ?_
          try simp (disch := omega) only [mH_t64, mH_r1, mH_r3, mH_r4, mH_r5, mH_r6, mH_r8, mH_r9, mH_r10, mH_r11, mH_r12, mH_r14, mH_i0, mH_i2, mH_i7, mH_i13, mH_i15, mH_t71, mH_t, mH_lr, mH_l65, mH_l69, mH_l70, mH_l71, mH_l72, mH_l73, mH_l74, mH_l75, mH_c, ew, zk]
          refine e_if (t := 71) (pc' := 69) hK rfl (by first | omega | exact bo_i _) (by decide) rfl (fun hb66 => ?_) (fun hb66 => ?_)
          · replace hb66 := cq_eq.1.mp hb66
            try simp only [bo_0, Bool.not_eq_false] at hb66
            refine e_step (pc' := 74) hK rfl rfl rfl ?_
            try simp only [List.set_cons_zero, List.set_cons_succ]
            refine e_goto (t := 23) hK rfl (by decide) ?_
            have ex : xw (gl A i) q (gl A j) k = false := hb66
            exact ih (k + 1) ⟨by omega, lo_s hlo ex⟩
          · replace hb66 := cq_eq.2.mp hb66
            try simp only [bo_0, Bool.not_eq_false] at hb66
            refine e_step (pc' := 70) hK rfl rfl rfl ?_
            refine e_ret hK rfl rfl (by first | rfl | (simp only [mv_ret]; rw [if_pos]; exact Or.inr ⟨rfl, by omega⟩) | (simp only [mv_ret]; rw [if_pos]; exact Or.inr ⟨rfl, by unfold mv_bo; split <;> first | exact Or.inl rfl | exact Or.inr rfl⟩)) ?_
            refine ⟨?_, rfl, w, rfl, hw⟩
            rw [show cwb A i q = true from lo_t (i := j.toNat) (by { rw [show ((j.toNat : Nat) : Int) = j from by omega]; exact lo_t (q := fun q2 => xw (gl A i) q (gl A j) q2) (i := k) hb66 (by omega) }) (by omega)]
            rfl
      · replace hb33 := cq_lt.2.mp hb33
        try simp only [bo_0, Bool.not_eq_false] at hb33
        refine e_step (pc' := 38) hK rfl rfl rfl ?_
        refine e_step (pc' := 39) hK rfl rfl rfl ?_
        refine e_icmp (t := 77) (pc' := 42) hK rfl (by first | omega | exact bo_i _) (by first | omega | exact bo_i _) (by decide) rfl (fun hb39 => ?_) (fun hb39 => ?_)
        · replace hb39 := cq_ge.1.mp hb39
          try simp only [bo_0, Bool.not_eq_false] at hb39
          exfalso; first | omega | exact absurd trivial (by assumption) | (first | omega | exact bo_i _)
        · replace hb39 := cq_ge.2.mp hb39
          try simp only [bo_0, Bool.not_eq_false] at hb39
          have hyk := hy k (by omega) (by omega)
          have zk := hyk.2.2.2.2
          have bk := Pc_b hyk
          refine e_step (pc' := 43) hK rfl rfl rfl ?_
          refine e_getR (ci := 4) (k := 12) (pc' := 46) hK rfl (by simp (disch := omega) only [mH_t64, mH_r1, mH_r3, mH_r4, mH_r5, mH_r6, mH_r8, mH_r9, mH_r10, mH_r11, mH_r12, mH_r14, mH_i0, mH_i2, mH_i7, mH_i13, mH_i15, mH_t71, mH_t, mH_lr, mH_l65, mH_l69, mH_l70, mH_l71, mH_l72, mH_l73, mH_l74, mH_l75, mH_c, ew, zk]) rfl rfl (by decide) (by decide) (by (try simp (disch := omega) only [mH_t64, mH_r1, mH_r3, mH_r4, mH_r5, mH_r6, mH_r8, mH_r9, mH_r10, mH_r11, mH_r12, mH_r14, mH_i0, mH_i2, mH_i7, mH_i13, mH_i15, mH_t71, mH_t, mH_lr, mH_l65, mH_l69, mH_l70, mH_l71, mH_l72, mH_l73, mH_l74, mH_l75, mH_c, ew, zk]); first | omega | exact bo_i _) rfl ?_
          try simp (disch := omega) only [mH_t64, mH_r1, mH_r3, mH_r4, mH_r5, mH_r6, mH_r8, mH_r9, mH_r10, mH_r11, mH_r12, mH_r14, mH_i0, mH_i2, mH_i7, mH_i13, mH_i15, mH_t71, mH_t, mH_lr, mH_l65, mH_l69, mH_l70, mH_l71, mH_l72, mH_l73, mH_l74, mH_l75, mH_c, ew, zk]
          refine e_step (pc' := 48) hK rfl rfl rfl ?_
          refine e_step (pc' := 50) hK rfl rfl rfl ?_
          refine e_step (pc' := 51) hK rfl rfl rfl ?_
          refine e_iald (pc' := 52) hK rfl (by simp (disch := omega) only [mH_t64, mH_r1, mH_r3, mH_r4, mH_r5, mH_r6, mH_r8, mH_r9, mH_r10, mH_r11, mH_r12, mH_r14, mH_i0, mH_i2, mH_i7, mH_i13, mH_i15, mH_t71, mH_t, mH_lr, mH_l65, mH_l69, mH_l70, mH_l71, mH_l72, mH_l73, mH_l74, mH_l75, mH_c, ew, zk]) (by first | omega | exact bo_i _) (by (try simp (disch := omega) only [mH_t64, mH_r1, mH_r3, mH_r4, mH_r5, mH_r6, mH_r8, mH_r9, mH_r10, mH_r11, mH_r12, mH_r14, mH_i0, mH_i2, mH_i7, mH_i13, mH_i15, mH_t71, mH_t, mH_lr, mH_l65, mH_l69, mH_l70, mH_l71, mH_l72, mH_l73, mH_l74, mH_l75, mH_c, ew, zk]); first | omega | exact bo_i _) rfl ?_
          try simp (disch := omega) only [mH_t64, mH_r1, mH_r3, mH_r4, mH_r5, mH_r6, mH_r8, mH_r9, mH_r10, mH_r11, mH_r12, mH_r14, mH_i0, mH_i2, mH_i7, mH_i13, mH_i15, mH_t71, mH_t, mH_lr, mH_l65, mH_l69, mH_l70, mH_l71, mH_l72, mH_l73, mH_l74, mH_l75, mH_c, ew, zk]
          refine e_if (t := 71) (pc' := 55) hK rfl (by first | omega | exact bo_i _) (by decide) rfl (fun hb52 => ?_) (fun hb52 => ?_)
          · replace hb52 := cq_ne.1.mp hb52
            try simp only [bo_0, Bool.not_eq_false] at hb52
            refine e_step (pc' := 74) hK rfl rfl rfl ?_
            try simp only [List.set_cons_zero, List.set_cons_succ]
            refine e_goto (t := 23) hK rfl (by decide) ?_
            have ex : xw (gl A i) q (gl A j) k = false := by { cases e9 : xw (gl A i) q (gl A j) k with | false => rfl | true => { have := xw_k (by rw [eg]; exact hlx) (by rw [gl_L hj0 (by omega)]; exact gLok hI hj0 (by omega)) e9; omega } }
            exact ih (k + 1) ⟨by omega, lo_s hlo ex⟩
          · replace hb52 := cq_ne.2.mp hb52
            try simp only [bo_0, Bool.not_eq_false] at hb52
            refine e_step (pc' := 56) hK rfl rfl rfl ?_
            refine e_step (pc' := 57) hK rfl rfl rfl ?_
            refine e_step (pc' := 58) hK rfl rfl rfl ?_
            refine e_step (pc' := 60) hK rfl rfl rfl ?_
            refine e_step (pc' := 62) hK rfl rfl rfl ?_
            refine e_step (pc' := 63) hK rfl rfl rfl ?_
            refine e_cRV4 (z := 126) (pc' := 66) hK rfl rfl (by first | (simp (disch := omega) only [mH_t64, mH_r1, mH_r3, mH_r4, mH_r5, mH_r6, mH_r8, mH_r9, mH_r10, mH_r11, mH_r12, mH_r14, mH_i0, mH_i2, mH_i7, mH_i13, mH_i15, mH_t71, mH_t, mH_lr, mH_l65, mH_l69, mH_l70, mH_l71, mH_l72, mH_l73, mH_l74, mH_l75, mH_c, ew, zk]; rfl) | (show _ = 2; assumption) | (show _ = 1; assumption) | (show _ = 0; assumption) | (show _ = 3; assumption) | (show _ = 4; assumption)) rfl (Nat.le_of_ble_eq_true rfl) (Nat.le_of_ble_eq_true rfl) (m_same a ha (by rw [ew]; exact hp) (by rw [ew]; exact hyk)) (by decide) rfl ?_
            try simp (disch := omega) only [mH_t64, mH_r1, mH_r3, mH_r4, mH_r5, mH_r6, mH_r8, mH_r9, mH_r10, mH_r11, mH_r12, mH_r14, mH_i0, mH_i2, mH_i7, mH_i13, mH_i15, mH_t71, mH_t, mH_lr, mH_l65, mH_l69, mH_l70, mH_l71, mH_l72, mH_l73, mH_l74, mH_l75, mH_c, ew, zk]
            refine e_if (t := 71) (pc' := 69) hK rfl (by first | omega | exact bo_i _) (by decide) rfl (fun hb66 => ?_) (fun hb66 => ?_)
            · replace hb66 := cq_eq.1.mp hb66
              try simp only [bo_0, Bool.not_eq_false] at hb66
              refine e_step (pc' := 74) hK rfl rfl rfl ?_
              try simp only [List.set_cons_zero, List.set_cons_succ]
              refine e_goto (t := 23) hK rfl (by decide) ?_
              have ex : xw (gl A i) q (gl A j) k = false := hb66
              exact ih (k + 1) ⟨by omega, lo_s hlo ex⟩
            · replace hb66 := cq_eq.2.mp hb66
              try simp only [bo_0, Bool.not_eq_false] at hb66
              refine e_step (pc' := 70) hK rfl rfl rfl ?_
              refine e_ret hK rfl rfl (by first | rfl | (simp only [mv_ret]; rw [if_pos]; exact Or.inr ⟨rfl, by omega⟩) | (simp only [mv_ret]; rw [if_pos]; exact Or.inr ⟨rfl, by unfold mv_bo; split <;> first | exact Or.inl rfl | exact Or.inr rfl⟩)) ?_
              refine ⟨?_, rfl, w, rfl, hw⟩
              rw [show cwb A i q = true from lo_t (i := j.toNat) (by { rw [show ((j.toNat : Nat) : Int) = j from by omega]; exact lo_t (q := fun q2 => xw (gl A i) q (gl A j) q2) (i := k) hb66 (by omega) }) (by omega)]
              rfl
set_option maxRecDepth 10000 in
theorem m_newWO (a : Int) (ha : 266 ≤ a ∧ a ≤ 268) {A : lg} (hR : Rw (v a) A) (hI : gI A) (i q : Int) (hi0 : 0 ≤ i) (hi1 : i < gn A) (hq0 : 0 ≤ q) (hq1 : q < xn (gl A i)) (hk0 : xk (gl A i) q = 0) : ∀ (m : Nat) (j : Nat) (w : mvt) (a5 a6 : mv_V), (j + m = (i + 1).toNat ∧ lo (fun j => lo (fun q2 => xw (gl A i) q (gl A j) q2) (cwe A i q j).toNat) j = false ∧ Cf v w 12 ∧ Pc w (v a) q i (gl A i) q) → mv_Ev sc 131 3 [(2, 264), (2, a), (0, i), (0, q), (0, (j : Int)), a5, a6] [] c (mH h w) (mv_M12 h v (mv_bo (!cwb A i q)) c) := by
  intro m
  induction m with
  | zero =>
    intro j w a5 a6 ⟨hj, hlo, hw, hp⟩
    have b1 := hI.1
    have b2 := hI.2.1
    have r0 := hR.1
    have r1 := hR.2.1
    have hlx := gLok hI hi0 hi1
    have b3 := xn_b hlx
    have eg := gl_L hi0 hi1
    rw [← eg] at b3
    have ew : w a = v a := hw.1 a (by omega) (by omega) (by omega)
    have hK : (mv_m 131).1 = kc_Mod_isNewWord := rfl
    refine e_step (pc' := 5) hK rfl rfl rfl ?_
    refine e_step (pc' := 6) hK rfl rfl rfl ?_
    refine e_icmp (t := 83) (pc' := 9) hK rfl (by first | omega) (by first | omega) (by decide) rfl (fun hb6 => ?_) (fun hb6 => ?_)
    · replace hb6 := cq_gt.1.mp hb6
      refine e_step (pc' := 84) hK rfl rfl rfl ?_
      refine e_ret hK rfl rfl (by first | rfl | (simp only [mv_ret]; rw [if_pos]; exact Or.inr ⟨rfl, by omega⟩) | (simp only [mv_ret]; rw [if_pos]; exact Or.inr ⟨rfl, by unfold mv_bo; split <;> first | exact Or.inl rfl | exact Or.inr rfl⟩)) ?_
      refine ⟨?_, rfl, w, rfl, hw⟩
      rw [show cwb A i q = false from by { unfold cwb; rw [show (i + 1).toNat = j from by omega]; exact hlo }]
      rfl
    · replace hb6 := cq_gt.2.mp hb6
      exfalso; first | omega | exact absurd trivial (by assumption) | (first | omega)
  | succ m ih =>
    intro j w a5 a6 ⟨hj, hlo, hw, hp⟩
    have b1 := hI.1
    have b2 := hI.2.1
    have r0 := hR.1
    have r1 := hR.2.1
    have hlx := gLok hI hi0 hi1
    have b3 := xn_b hlx
    have eg := gl_L hi0 hi1
    rw [← eg] at b3
    have ew : w a = v a := hw.1 a (by omega) (by omega) (by omega)
    have hK : (mv_m 131).1 = kc_Mod_isNewWord := rfl
    refine e_step (pc' := 5) hK rfl rfl rfl ?_
    refine e_step (pc' := 6) hK rfl rfl rfl ?_
    refine e_icmp (t := 83) (pc' := 9) hK rfl (by first | omega) (by first | omega) (by decide) rfl (fun hb6 => ?_) (fun hb6 => ?_)
    · replace hb6 := cq_gt.1.mp hb6
      exfalso; first | omega | exact absurd trivial (by assumption) | (first | omega)
    · replace hb6 := cq_gt.2.mp hb6
      refine e_step (pc' := 10) hK rfl rfl rfl ?_
      refine e_step (pc' := 11) hK rfl rfl rfl ?_
      refine e_step (pc' := 13) hK rfl rfl rfl ?_
      refine e_step (pc' := 15) hK rfl rfl rfl ?_
      refine e_cQV4 (z := 123) hK rfl rfl (by first | (simp (disch := omega) only [mH_t64, mH_r1, mH_r3, mH_r4, mH_r5, mH_r6, mH_r8, mH_r9, mH_r10, mH_r11, mH_r12, mH_r14, mH_i0, mH_i2, mH_i7, mH_i13, mH_i15, mH_t71, mH_t, mH_lr, mH_l65, mH_l69, mH_l70, mH_l71, mH_l72, mH_l73, mH_l74, mH_l75, mH_c, ew]; rfl) | (show _ = 2; assumption) | (show _ = 1; assumption) | (show _ = 0; assumption) | (show _ = 3; assumption) | (show _ = 4; assumption)) rfl (Nat.le_of_ble_eq_true rfl) (Nat.le_of_ble_eq_true rfl) (m_cut a ha (j : Int) 12 ⟨by omega, by omega⟩ (Or.inr rfl) (gLok hI (show (0 : Int) ≤ j by omega) (by omega)) (by rw [ew]; exact (hR.2.2.1 j (by omega) (by omega)).1)) ?_
      rintro _ _ _ ⟨rfl, rfl, u, rfl, hu, ku⟩
      refine ⟨by show (0 : Nat) ≠ 4; decide, ?_⟩
      rw [if_neg (by show ¬ (0 : Nat) = 3; decide)]
      try dsimp only
      show mv_Ev _ _ 18 _ _ _ _ _
      refine e_step (pc' := 20) hK rfl rfl rfl ?_
      try simp only [List.set_cons_zero, List.set_cons_succ]
      refine e_step (pc' := 21) hK rfl rfl rfl ?_
      refine e_step (pc' := 23) hK rfl rfl rfl ?_
      try simp only [List.set_cons_zero, List.set_cons_succ]
      have ej := gl_L (A := A) (show (0 : Int) ≤ j by omega) (show (j : Int) < gn A by omega)
      rw [show xn (gL A (j : Int)) = xn (gl A (j : Int)) from by rw [ej]]
      refine m_newWI a ha hR hI i q hi0 hi1 hq0 hq1 hk0 (j : Int) (by omega) (by omega) u (Cf_t hw hu) (Pc_fr hp hu (by omega)) (fun r r0 r1 => Pc_of (o := 12) (by rw [ej]; exact ku) (by rw [ej]; exact (hR.2.2.1 j (by omega) (by omega)).1) ⟨by omega, by omega⟩ (by rw [ej]; exact gLok hI (by omega) (by omega)) (Or.inr rfl) r0 r1 rfl) (fun hf b5 b6 => ?_) (cwe A i q (j : Int)).toNat 0 ⟨by omega, rfl⟩
      refine e_step (pc' := 80) hK rfl rfl rfl ?_
      try simp only [List.set_cons_zero, List.set_cons_succ]
      refine e_goto (t := 3) hK rfl (by decide) ?_
      exact ih (j + 1) u _ _ ⟨by omega, lo_s hlo hf, Cf_t hw hu, Pc_fr hp hu (by omega)⟩
set_option maxRecDepth 10000 in
theorem m_newWord (a : Int) (ha : 266 ≤ a ∧ a ≤ 268) {A : lg} (hR : Rw (v a) A) (hI : gI A) (i q : Int) (hi0 : 0 ≤ i) (hi1 : i < gn A) (hq0 : 0 ≤ q) (hq1 : q < xn (gl A i)) (hk0 : xk (gl A i) q = 0) (hp : Pc v (v a) q i (gl A i) q) : mv_Cl sc q_Mod_isNewWord [(2, 264), (2, a), (0, i), (0, q)] c (mH h v) (mv_M12 h v (mv_bo (!cwb A i q)) c) := by
  show mv_Ev sc 131 0 [(2, 264), (2, a), (0, i), (0, q), (5, 0), (5, 0), (5, 0)] [] c (mH h v) _
  have hK : (mv_m 131).1 = kc_Mod_isNewWord := rfl
  refine e_step (pc' := 1) hK rfl rfl rfl ?_
  refine e_step (pc' := 3) hK rfl rfl rfl ?_
  try simp only [List.set_cons_zero, List.set_cons_succ]
  exact m_newWO a ha hR hI i q hi0 hi1 hq0 hq1 hk0 (i + 1).toNat 0 v _ _ ⟨by omega, rfl, Cf_r v 12, hp⟩
set_option maxRecDepth 10000 in
theorem m_diffI (a : Int) (ha : 266 ≤ a ∧ a ≤ 268) {A : lg} (hR : Rw (v a) A) (hI : gI A) (i : Nat) (hi1 : (i : Int) < gn A) (w0 : mvt) (hw0 : ms v w0) (hp : ∀ r : Int, 0 ≤ r → r < xn (gl A (i : Int)) → Pc w0 (v a) r i (gl A (i : Int)) r) (K : ∀ (w : mvt) (a5 : mv_V), ms v w → mv_Ev sc 130 65 [(2, 264), (2, a), (0, lsum (fun i => lc (fun p => decide (xk (gl A i) p = 0) && !cwb A i p) (xn (gl A i)).toNat) i + lc (fun p => decide (xk (gl A (i : Int)) p = 0) && !cwb A (i : Int) p) (xn (gl A (i : Int))).toNat), (0, (i : Int)), (0, xn (gl A (i : Int))), a5] [] c (mH h w) (mv_Ms h v (cdw A) c)) : ∀ (m : Nat) (k : Nat) (w : mvt), (k + m = (xn (gl A (i : Int))).toNat ∧ Cf w0 w 12) → mv_Ev sc 130 23 [(2, 264), (2, a), (0, lsum (fun i => lc (fun p => decide (xk (gl A i) p = 0) && !cwb A i p) (xn (gl A i)).toNat) i + lc (fun p => decide (xk (gl A (i : Int)) p = 0) && !cwb A (i : Int) p) k), (0, (i : Int)), (0, xn (gl A (i : Int))), (0, (k : Int))] [] c (mH h w) (mv_Ms h v (cdw A) c) := by
  intro m
  induction m with
  | zero =>
    intro k w ⟨hk, hw⟩
    have b1 := hI.1
    have b2 := hI.2.1
    have r0 := hR.1
    have r1 := hR.2.1
    have ew : w a = v a := (ms_t hw0 hw.1) a (by omega) (by omega) (by omega)
    have ei := gl_L (A := A) (show (0 : Int) ≤ i by omega) hi1
    have b3 := xn_b (gLok hI (show (0 : Int) ≤ i by omega) hi1)
    rw [← ei] at b3
    have hK : (mv_m 130).1 = kc_Mod_differentWords := rfl
    refine e_step (pc' := 25) hK rfl rfl rfl ?_
    refine e_step (pc' := 27) hK rfl rfl rfl ?_
    refine e_icmp (t := 65) (pc' := 30) hK rfl (by first | omega | exact bo_i _) (by first | omega | exact bo_i _) (by decide) rfl (fun hb27 => ?_) (fun hb27 => ?_)
    · replace hb27 := cq_ge.1.mp hb27
      try simp only [bo_0, Bool.not_eq_false] at hb27
      rw [show k = (xn (gl A (i : Int))).toNat from by omega]
      exact K w _ (ms_t hw0 hw.1)
    · replace hb27 := cq_ge.2.mp hb27
      try simp only [bo_0, Bool.not_eq_false] at hb27
      exfalso; first | omega | exact absurd trivial (by assumption) | (first | omega | exact bo_i _)
  | succ m ih =>
    intro k w ⟨hk, hw⟩
    have b1 := hI.1
    have b2 := hI.2.1
    have r0 := hR.1
    have r1 := hR.2.1
    have ew : w a = v a := (ms_t hw0 hw.1) a (by omega) (by omega) (by omega)
    have ei := gl_L (A := A) (show (0 : Int) ≤ i by omega) hi1
    have b3 := xn_b (gLok hI (show (0 : Int) ≤ i by omega) hi1)
    rw [← ei] at b3
    have hK : (mv_m 130).1 = kc_Mod_differentWords := rfl
    refine e_step (pc' := 25) hK rfl rfl rfl ?_
    refine e_step (pc' := 27) hK rfl rfl rfl ?_
    refine e_icmp (t := 65) (pc' := 30) hK rfl (by first | omega | exact bo_i _) (by first | omega | exact bo_i _) (by decide) rfl (fun hb27 => ?_) (fun hb27 => ?_)
    · replace hb27 := cq_ge.1.mp hb27
      try simp only [bo_0, Bool.not_eq_false] at hb27
      exfalso; first | omega | exact absurd trivial (by assumption) | (first | omega | exact bo_i _)
    · replace hb27 := cq_ge.2.mp hb27
      try simp only [bo_0, Bool.not_eq_false] at hb27
      have hpk := Pc_fr (hp k (by omega) (by omega)) hw (by omega)
      have zk := hpk.2.2.2.2
      have bk := Pc_b hpk
      refine e_step (pc' := 31) hK rfl rfl rfl ?_
      refine e_step (pc' := 32) hK rfl rfl rfl ?_
      refine e_getR (ci := 4) (k := 12) (pc' := 35) hK rfl (by simp (disch := omega) only [mH_t64, mH_r1, mH_r3, mH_r4, mH_r5, mH_r6, mH_r8, mH_r9, mH_r10, mH_r11, mH_r12, mH_r14, mH_i0, mH_i2, mH_i7, mH_i13, mH_i15, mH_t71, mH_t, mH_lr, mH_l65, mH_l69, mH_l70, mH_l71, mH_l72, mH_l73, mH_l74, mH_l75, mH_c, ew, zk]) rfl rfl (by decide) (by decide) (by (try simp (disch := omega) only [mH_t64, mH_r1, mH_r3, mH_r4, mH_r5, mH_r6, mH_r8, mH_r9, mH_r10, mH_r11, mH_r12, mH_r14, mH_i0, mH_i2, mH_i7, mH_i13, mH_i15, mH_t71, mH_t, mH_lr, mH_l65, mH_l69, mH_l70, mH_l71, mH_l72, mH_l73, mH_l74, mH_l75, mH_c, ew, zk]); first | omega | exact bo_i _) rfl ?_
      try simp (disch := omega) only [mH_t64, mH_r1, mH_r3, mH_r4, mH_r5, mH_r6, mH_r8, mH_r9, mH_r10, mH_r11, mH_r12, mH_r14, mH_i0, mH_i2, mH_i7, mH_i13, mH_i15, mH_t71, mH_t, mH_lr, mH_l65, mH_l69, mH_l70, mH_l71, mH_l72, mH_l73, mH_l74, mH_l75, mH_c, ew, zk]
      refine e_step (pc' := 37) hK rfl rfl rfl ?_
      refine e_iald (pc' := 38) hK rfl (by simp (disch := omega) only [mH_t64, mH_r1, mH_r3, mH_r4, mH_r5, mH_r6, mH_r8, mH_r9, mH_r10, mH_r11, mH_r12, mH_r14, mH_i0, mH_i2, mH_i7, mH_i13, mH_i15, mH_t71, mH_t, mH_lr, mH_l65, mH_l69, mH_l70, mH_l71, mH_l72, mH_l73, mH_l74, mH_l75, mH_c, ew, zk]) (by first | omega | exact bo_i _) (by (try simp (disch := omega) only [mH_t64, mH_r1, mH_r3, mH_r4, mH_r5, mH_r6, mH_r8, mH_r9, mH_r10, mH_r11, mH_r12, mH_r14, mH_i0, mH_i2, mH_i7, mH_i13, mH_i15, mH_t71, mH_t, mH_lr, mH_l65, mH_l69, mH_l70, mH_l71, mH_l72, mH_l73, mH_l74, mH_l75, mH_c, ew, zk]); first | omega | exact bo_i _) rfl ?_
      try simp (disch := omega) only [mH_t64, mH_r1, mH_r3, mH_r4, mH_r5, mH_r6, mH_r8, mH_r9, mH_r10, mH_r11, mH_r12, mH_r14, mH_i0, mH_i2, mH_i7, mH_i13, mH_i15, mH_t71, mH_t, mH_lr, mH_l65, mH_l69, mH_l70, mH_l71, mH_l72, mH_l73, mH_l74, mH_l75, mH_c, ew, zk]
      refine e_if (t := 56) (pc' := 41) hK rfl (by first | omega | exact bo_i _) (by decide) rfl (fun hb38 => ?_) (fun hb38 => ?_)
      · replace hb38 := cq_ne.1.mp hb38
        try simp only [bo_0, Bool.not_eq_false] at hb38
        refine e_step (pc' := 57) hK rfl rfl rfl ?_
        refine e_step (pc' := 58) hK rfl rfl rfl ?_
        refine e_step (pc' := 59) hK rfl rfl rfl ?_
        try simp only [List.set_cons_zero, List.set_cons_succ]
        refine e_step (pc' := 62) hK rfl rfl rfl ?_
        try simp only [List.set_cons_zero, List.set_cons_succ]
        refine e_goto (t := 23) hK rfl (by decide) ?_
        rw [show lsum (fun i => lc (fun p => decide (xk (gl A i) p = 0) && !cwb A i p) (xn (gl A i)).toNat) i + lc (fun p => decide (xk (gl A (i : Int)) p = 0) && !cwb A (i : Int) p) k + 0 = lsum (fun i => lc (fun p => decide (xk (gl A i) p = 0) && !cwb A i p) (xn (gl A i)).toNat) i + lc (fun p => decide (xk (gl A (i : Int)) p = 0) && !cwb A (i : Int) p) (k + 1) from by { rw [lc_f (q := fun p => decide (xk (gl A (i : Int)) p = 0) && !cwb A (i : Int) p) (by { show (decide _ && !_) = false; rw [decide_eq_false (by omega)]; rfl })]; omega }]
        exact ih (k + 1) w ⟨by omega, hw⟩
      · replace hb38 := cq_ne.2.mp hb38
        try simp only [bo_0, Bool.not_eq_false] at hb38
        refine e_step (pc' := 42) hK rfl rfl rfl ?_
        refine e_step (pc' := 43) hK rfl rfl rfl ?_
        refine e_step (pc' := 44) hK rfl rfl rfl ?_
        refine e_step (pc' := 46) hK rfl rfl rfl ?_
        refine e_cQV4 (z := 131) hK rfl rfl (by first | (simp (disch := omega) only [mH_t64, mH_r1, mH_r3, mH_r4, mH_r5, mH_r6, mH_r8, mH_r9, mH_r10, mH_r11, mH_r12, mH_r14, mH_i0, mH_i2, mH_i7, mH_i13, mH_i15, mH_t71, mH_t, mH_lr, mH_l65, mH_l69, mH_l70, mH_l71, mH_l72, mH_l73, mH_l74, mH_l75, mH_c, ew, zk]; rfl) | (show _ = 2; assumption) | (show _ = 1; assumption) | (show _ = 0; assumption) | (show _ = 3; assumption) | (show _ = 4; assumption)) rfl (Nat.le_of_ble_eq_true rfl) (Nat.le_of_ble_eq_true rfl) (m_newWord a ha (by rw [ew]; exact hR) hI (i : Int) (k : Int) (by omega) hi1 (by omega) (by omega) hb38 (by rw [ew]; exact hpk)) ?_
        rintro _ _ _ ⟨rfl, rfl, u, rfl, hu⟩
        refine ⟨by show (0 : Nat) ≠ 4; decide, ?_⟩
        rw [if_neg (by show ¬ (0 : Nat) = 3; decide)]
        try dsimp only
        show mv_Ev _ _ 49 _ _ _ _ _
        refine e_if (t := 56) (pc' := 52) hK rfl (by first | omega | exact bo_i _) (by decide) rfl (fun hb49 => ?_) (fun hb49 => ?_)
        · replace hb49 := cq_eq.1.mp hb49
          try simp only [bo_0, Bool.not_eq_false] at hb49
          refine e_step (pc' := 57) hK rfl rfl rfl ?_
          refine e_step (pc' := 58) hK rfl rfl rfl ?_
          refine e_step (pc' := 59) hK rfl rfl rfl ?_
          try simp only [List.set_cons_zero, List.set_cons_succ]
          refine e_step (pc' := 62) hK rfl rfl rfl ?_
          try simp only [List.set_cons_zero, List.set_cons_succ]
          refine e_goto (t := 23) hK rfl (by decide) ?_
          rw [show lsum (fun i => lc (fun p => decide (xk (gl A i) p = 0) && !cwb A i p) (xn (gl A i)).toNat) i + lc (fun p => decide (xk (gl A (i : Int)) p = 0) && !cwb A (i : Int) p) k + 0 = lsum (fun i => lc (fun p => decide (xk (gl A i) p = 0) && !cwb A i p) (xn (gl A i)).toNat) i + lc (fun p => decide (xk (gl A (i : Int)) p = 0) && !cwb A (i : Int) p) (k + 1) from by { rw [lc_f (q := fun p => decide (xk (gl A (i : Int)) p = 0) && !cwb A (i : Int) p) (by { show (decide _ && !_) = false; rw [hb49]; exact Bool.and_false _ })]; omega }]
          exact ih (k + 1) u ⟨by omega, Cf_t hw hu⟩
        · replace hb49 := cq_eq.2.mp hb49
          try simp only [bo_0, Bool.not_eq_false] at hb49
          refine e_step (pc' := 53) hK rfl rfl rfl ?_
          refine e_goto (t := 57) hK rfl (by decide) ?_
          refine e_step (pc' := 58) hK rfl rfl rfl ?_
          refine e_step (pc' := 59) hK rfl rfl rfl ?_
          try simp only [List.set_cons_zero, List.set_cons_succ]
          refine e_step (pc' := 62) hK rfl rfl rfl ?_
          try simp only [List.set_cons_zero, List.set_cons_succ]
          refine e_goto (t := 23) hK rfl (by decide) ?_
          rw [show lsum (fun i => lc (fun p => decide (xk (gl A i) p = 0) && !cwb A i p) (xn (gl A i)).toNat) i + lc (fun p => decide (xk (gl A (i : Int)) p = 0) && !cwb A (i : Int) p) k + 1 = lsum (fun i => lc (fun p => decide (xk (gl A i) p = 0) && !cwb A i p) (xn (gl A i)).toNat) i + lc (fun p => decide (xk (gl A (i : Int)) p = 0) && !cwb A (i : Int) p) (k + 1) from by { rw [lc_t (q := fun p => decide (xk (gl A (i : Int)) p = 0) && !cwb A (i : Int) p) (by { show (decide _ && !_) = true; rw [decide_eq_true (by omega), hb49]; rfl })]; omega }]
          exact ih (k + 1) u ⟨by omega, Cf_t hw hu⟩
set_option maxRecDepth 10000 in
theorem m_diffO (a : Int) (ha : 266 ≤ a ∧ a ≤ 268) {A : lg} (hR : Rw (v a) A) (hI : gI A) : ∀ (m : Nat) (i : Nat) (w : mvt) (a4 a5 : mv_V), (i + m = gn A ∧ ms v w) → mv_Ev sc 130 4 [(2, 264), (2, a), (0, lsum (fun i => lc (fun p => decide (xk (gl A i) p = 0) && !cwb A i p) (xn (gl A i)).toNat) i), (0, (i : Int)), a4, a5] [] c (mH h w) (mv_Ms h v (cdw A) c) := by
  intro m
  induction m with
  | zero =>
    intro i w a4 a5 ⟨hi, hw⟩
    have b1 := hI.1
    have b2 := hI.2.1
    have r0 := hR.1
    have r1 := hR.2.1
    have ew : w a = v a := hw a (by omega) (by omega) (by omega)
    have hK : (mv_m 130).1 = kc_Mod_differentWords := rfl
    refine e_step (pc' := 5) hK rfl rfl rfl ?_
    refine e_step (pc' := 6) hK rfl rfl rfl ?_
    refine e_step (pc' := 7) hK rfl rfl rfl ?_
    refine e_iald (pc' := 8) hK rfl (by simp (disch := omega) only [mH_t64, mH_r1, mH_r3, mH_r4, mH_r5, mH_r6, mH_r8, mH_r9, mH_r10, mH_r11, mH_r12, mH_r14, mH_i0, mH_i2, mH_i7, mH_i13, mH_i15, mH_t71, mH_t, mH_lr, mH_l65, mH_l69, mH_l70, mH_l71, mH_l72, mH_l73, mH_l74, mH_l75, mH_c, ew, r0]) (by first | omega) (by (try simp (disch := omega) only [mH_t64, mH_r1, mH_r3, mH_r4, mH_r5, mH_r6, mH_r8, mH_r9, mH_r10, mH_r11, mH_r12, mH_r14, mH_i0, mH_i2, mH_i7, mH_i13, mH_i15, mH_t71, mH_t, mH_lr, mH_l65, mH_l69, mH_l70, mH_l71, mH_l72, mH_l73, mH_l74, mH_l75, mH_c, ew, r0]); first | omega) rfl ?_
    try simp (disch := omega) only [mH_t64, mH_r1, mH_r3, mH_r4, mH_r5, mH_r6, mH_r8, mH_r9, mH_r10, mH_r11, mH_r12, mH_r14, mH_i0, mH_i2, mH_i7, mH_i13, mH_i15, mH_t71, mH_t, mH_lr, mH_l65, mH_l69, mH_l70, mH_l71, mH_l72, mH_l73, mH_l74, mH_l75, mH_c, ew, r0]
    refine e_icmp (t := 71) (pc' := 11) hK rfl (by first | omega) (by first | omega) (by decide) rfl (fun hb8 => ?_) (fun hb8 => ?_)
    · replace hb8 := cq_ge.1.mp hb8
      refine e_step (pc' := 72) hK rfl rfl rfl ?_
      refine e_ret hK rfl rfl rfl ?_
      refine ⟨?_, rfl, w, rfl, hw⟩
      rw [show i = gn A from by omega]
      rfl
    · replace hb8 := cq_ge.2.mp hb8
      exfalso; first | omega | exact absurd trivial (by assumption) | (first | omega)
  | succ m ih =>
    intro i w a4 a5 ⟨hi, hw⟩
    have b1 := hI.1
    have b2 := hI.2.1
    have r0 := hR.1
    have r1 := hR.2.1
    have ew : w a = v a := hw a (by omega) (by omega) (by omega)
    have hK : (mv_m 130).1 = kc_Mod_differentWords := rfl
    refine e_step (pc' := 5) hK rfl rfl rfl ?_
    refine e_step (pc' := 6) hK rfl rfl rfl ?_
    refine e_step (pc' := 7) hK rfl rfl rfl ?_
    refine e_iald (pc' := 8) hK rfl (by simp (disch := omega) only [mH_t64, mH_r1, mH_r3, mH_r4, mH_r5, mH_r6, mH_r8, mH_r9, mH_r10, mH_r11, mH_r12, mH_r14, mH_i0, mH_i2, mH_i7, mH_i13, mH_i15, mH_t71, mH_t, mH_lr, mH_l65, mH_l69, mH_l70, mH_l71, mH_l72, mH_l73, mH_l74, mH_l75, mH_c, ew, r0]) (by first | omega) (by (try simp (disch := omega) only [mH_t64, mH_r1, mH_r3, mH_r4, mH_r5, mH_r6, mH_r8, mH_r9, mH_r10, mH_r11, mH_r12, mH_r14, mH_i0, mH_i2, mH_i7, mH_i13, mH_i15, mH_t71, mH_t, mH_lr, mH_l65, mH_l69, mH_l70, mH_l71, mH_l72, mH_l73, mH_l74, mH_l75, mH_c, ew, r0]); first | omega) rfl ?_
    try simp (disch := omega) only [mH_t64, mH_r1, mH_r3, mH_r4, mH_r5, mH_r6, mH_r8, mH_r9, mH_r10, mH_r11, mH_r12, mH_r14, mH_i0, mH_i2, mH_i7, mH_i13, mH_i15, mH_t71, mH_t, mH_lr, mH_l65, mH_l69, mH_l70, mH_l71, mH_l72, mH_l73, mH_l74, mH_l75, mH_c, ew, r0]
    refine e_icmp (t := 71) (pc' := 11) hK rfl (by first | omega) (by first | omega) (by decide) rfl (fun hb8 => ?_) (fun hb8 => ?_)
    · replace hb8 := cq_ge.1.mp hb8
      exfalso; first | omega | exact absurd trivial (by assumption) | (first | omega)
    · replace hb8 := cq_ge.2.mp hb8
      refine e_step (pc' := 12) hK rfl rfl rfl ?_
      refine e_step (pc' := 13) hK rfl rfl rfl ?_
      refine e_step (pc' := 14) hK rfl rfl rfl ?_
      refine e_step (pc' := 15) hK rfl rfl rfl ?_
      refine e_cQV4 (z := 123) hK rfl rfl (by first | (simp (disch := omega) only [mH_t64, mH_r1, mH_r3, mH_r4, mH_r5, mH_r6, mH_r8, mH_r9, mH_r10, mH_r11, mH_r12, mH_r14, mH_i0, mH_i2, mH_i7, mH_i13, mH_i15, mH_t71, mH_t, mH_lr, mH_l65, mH_l69, mH_l70, mH_l71, mH_l72, mH_l73, mH_l74, mH_l75, mH_c, ew, r0]; rfl) | (show _ = 2; assumption) | (show _ = 1; assumption) | (show _ = 0; assumption) | (show _ = 3; assumption) | (show _ = 4; assumption)) rfl (Nat.le_of_ble_eq_true rfl) (Nat.le_of_ble_eq_true rfl) (m_cut a ha (i : Int) 0 ⟨by omega, by omega⟩ (Or.inl rfl) (gLok hI (show (0 : Int) ≤ i by omega) (by omega)) (by rw [ew]; exact (hR.2.2.1 i (by omega) (by omega)).1)) ?_
      rintro _ _ _ ⟨rfl, rfl, u, rfl, hu, ku⟩
      refine ⟨by show (0 : Nat) ≠ 4; decide, ?_⟩
      rw [if_neg (by show ¬ (0 : Nat) = 3; decide)]
      try dsimp only
      show mv_Ev _ _ 18 _ _ _ _ _
      refine e_step (pc' := 20) hK rfl rfl rfl ?_
      try simp only [List.set_cons_zero, List.set_cons_succ]
      refine e_step (pc' := 21) hK rfl rfl rfl ?_
      refine e_step (pc' := 23) hK rfl rfl rfl ?_
      try simp only [List.set_cons_zero, List.set_cons_succ]
      have ei := gl_L (A := A) (show (0 : Int) ≤ i by omega) (show (i : Int) < gn A by omega)
      rw [show xn (gL A (i : Int)) = xn (gl A (i : Int)) from by rw [ei]]
      rw [show lsum (fun i => lc (fun p => decide (xk (gl A i) p = 0) && !cwb A i p) (xn (gl A i)).toNat) i = lsum (fun i => lc (fun p => decide (xk (gl A i) p = 0) && !cwb A i p) (xn (gl A i)).toNat) i + lc (fun p => decide (xk (gl A (i : Int)) p = 0) && !cwb A (i : Int) p) 0 from (Int.add_zero _).symm]
      refine m_diffI a ha hR hI i (by omega) u (ms_t hw hu.1) (fun r r0 r1 => Pc_of (o := 0) (by rw [ei]; exact ku) (by rw [ei]; exact (hR.2.2.1 i (by omega) (by omega)).1) ⟨by omega, by omega⟩ (by rw [ei]; exact gLok hI (by omega) (by omega)) (Or.inl rfl) r0 r1 (by omega)) (fun w2 b5 hw2 => ?_) (xn (gl A (i : Int))).toNat 0 u ⟨by omega, Cf_r u 12⟩
      refine e_step (pc' := 68) hK rfl rfl rfl ?_
      try simp only [List.set_cons_zero, List.set_cons_succ]
      refine e_goto (t := 4) hK rfl (by decide) ?_
      exact ih (i + 1) w2 _ _ ⟨by omega, hw2⟩
set_option maxRecDepth 10000 in
theorem m_diff (a : Int) (ha : 266 ≤ a ∧ a ≤ 268) {A : lg} (hR : Rw (v a) A) (hI : gI A) : mv_Cl sc q_Mod_differentWords [(2, 264), (2, a)] c (mH h v) (mv_Ms h v (cdw A) c) := by
  show mv_Ev sc 130 0 [(2, 264), (2, a), (5, 0), (5, 0), (5, 0), (5, 0)] [] c (mH h v) _
  have hK : (mv_m 130).1 = kc_Mod_differentWords := rfl
  refine e_step (pc' := 1) hK rfl rfl rfl ?_
  refine e_step (pc' := 2) hK rfl rfl rfl ?_
  try simp only [List.set_cons_zero, List.set_cons_succ]
  refine e_step (pc' := 3) hK rfl rfl rfl ?_
  refine e_step (pc' := 4) hK rfl rfl rfl ?_
  try simp only [List.set_cons_zero, List.set_cons_succ]
  exact m_diffO a ha hR hI (gn A) 0 v _ _ ⟨by omega, ms_r v⟩
end MW
