/-! the reference's face: further questions, text, slots (written by wip/whole/m72.py) -/
section GB
variable {sc : Int × (Int → Int)} {c : mv_C} {h : mv_H} {v : mvt}
set_option maxRecDepth 10000 in
theorem g_value {W : wt} (hM : MdA v W) (i : Int) (hi : mv_i i) (x : Int) (hx : mv_i x) : mv_Cl sc q_Mod_value [(2, 264), (0, i), (0, x)] c (mH h v) (fun r c' h' => r = (0, (sp_value W i x).2.1) ∧ c' = c ∧ ∃ w, h' = mH h w ∧ MdA w (sp_value W i x).2.2 ∧ w 264 0 = (sp_value W i x).1) := by
  have hM0 := hM
  obtain ⟨hTx, hR, ⟨hI, bn, bT⟩, hH, hz, hSv⟩ := hM
  have r0 := hR.1
  have r1 := hR.2.1
  show mv_Ev sc 137 0 [(2, 264), (0, i), (0, x)] [] c (mH h v) _
  have hK : (mv_m 137).1 = kc_Mod_value := rfl
  refine e_step (pc' := 1) hK rfl rfl rfl ?_
  refine e_step (pc' := 2) hK rfl rfl rfl ?_
  refine e_getR (ci := 4) (k := 3) (pc' := 5) hK rfl (by simp (disch := omega) only [mH_t64, mH_r1, mH_r3, mH_r4, mH_r5, mH_r6, mH_r8, mH_r9, mH_r10, mH_r11, mH_r12, mH_r14, mH_i0, mH_i2, mH_i7, mH_i13, mH_i15, mH_t71, mH_t, mH_lr, mH_l65, mH_l69, mH_l70, mH_l71, mH_l72, mH_l73, mH_l74, mH_l75, mH_c, r0]) rfl rfl (by decide) (by decide) (by (try simp (disch := omega) only [mH_t64, mH_r1, mH_r3, mH_r4, mH_r5, mH_r6, mH_r8, mH_r9, mH_r10, mH_r11, mH_r12, mH_r14, mH_i0, mH_i2, mH_i7, mH_i13, mH_i15, mH_t71, mH_t, mH_lr, mH_l65, mH_l69, mH_l70, mH_l71, mH_l72, mH_l73, mH_l74, mH_l75, mH_c, r0]); first | omega | exact bo_i _ | (simp only [Bool.and_eq_true, decide_eq_true_eq] at hb43; omega)) rfl ?_
  try simp (disch := omega) only [mH_t64, mH_r1, mH_r3, mH_r4, mH_r5, mH_r6, mH_r8, mH_r9, mH_r10, mH_r11, mH_r12, mH_r14, mH_i0, mH_i2, mH_i7, mH_i13, mH_i15, mH_t71, mH_t, mH_lr, mH_l65, mH_l69, mH_l70, mH_l71, mH_l72, mH_l73, mH_l74, mH_l75, mH_c, r0]
  refine e_step (pc' := 6) hK rfl rfl rfl ?_
  refine e_cRS2 (z := 134) (pc' := 9) hK rfl rfl rfl (Nat.le_of_ble_eq_true rfl) (Nat.le_of_ble_eq_true rfl) (m_isLine 266 (by omega) i hi (by rw [r0]; omega)) (by decide) rfl ?_
  try simp (disch := omega) only [mH_t64, mH_r1, mH_r3, mH_r4, mH_r5, mH_r6, mH_r8, mH_r9, mH_r10, mH_r11, mH_r12, mH_r14, mH_i0, mH_i2, mH_i7, mH_i13, mH_i15, mH_t71, mH_t, mH_lr, mH_l65, mH_l69, mH_l70, mH_l71, mH_l72, mH_l73, mH_l74, mH_l75, mH_c, r0]
  refine e_if (t := 25) (pc' := 12) hK rfl (by first | omega | exact bo_i _ | (simp only [Bool.and_eq_true, decide_eq_true_eq] at hb43; omega)) (by decide) rfl (fun hb9 => ?_) (fun hb9 => ?_)
  · replace hb9 := cq_eq.1.mp hb9
    try simp only [bo_0, Bool.not_eq_false] at hb9
    simp only [Bool.and_eq_false_iff, decide_eq_false_iff_not] at hb9
    refine e_step (pc' := 26) hK rfl rfl rfl ?_
    refine e_put (ci := 4) (k := 13) (pc' := 29) hK rfl (by simp (disch := omega) only [mH_t64, mH_r1, mH_r3, mH_r4, mH_r5, mH_r6, mH_r8, mH_r9, mH_r10, mH_r11, mH_r12, mH_r14, mH_i0, mH_i2, mH_i7, mH_i13, mH_i15, mH_t71, mH_t, mH_lr, mH_l65, mH_l69, mH_l70, mH_l71, mH_l72, mH_l73, mH_l74, mH_l75, mH_c, r0]) rfl rfl (by decide) rfl rfl ?_
    simp (disch := omega) only [mW_0, mW_2, mW_7, mW_13, mW_15, mW_a, gu_s]
    have hw : ms v v := ms_r v
    have hMw : MdA (gu v 264 (mv_up (v 264) 13 0)) W := hM0.kq (fun b hb => gu_n (by omega)) (by rw [gu_s, up_n (by omega)]) (by rw [gu_s, up_n (by omega)])
    have z13 : gu v 264 (mv_up (v 264) 13 0) 264 13 = 0 := by { rw [gu_s, up_s] }
    generalize gu v 264 (mv_up (v 264) 13 0) = w2 at *
    refine e_step (pc' := 30) hK rfl rfl rfl ?_
    refine e_step (pc' := 31) hK rfl rfl rfl ?_
    refine e_i2l (pc' := 32) hK rfl (by first | omega | exact bo_i _ | (simp only [Bool.and_eq_true, decide_eq_true_eq] at hb43; omega)) rfl ?_
    refine e_step (pc' := 33) hK rfl rfl rfl ?_
    show mv_Ev _ _ 33 _ ((1, (0 : Int)) :: _) _ _ _
    refine e_step (pc' := 34) hK rfl rfl rfl ?_
    refine e_getI (ci := 4) (k := 13) (pc' := 37) hK rfl (by simp (disch := omega) only [mH_t64, mH_r1, mH_r3, mH_r4, mH_r5, mH_r6, mH_r8, mH_r9, mH_r10, mH_r11, mH_r12, mH_r14, mH_i0, mH_i2, mH_i7, mH_i13, mH_i15, mH_t71, mH_t, mH_lr, mH_l65, mH_l69, mH_l70, mH_l71, mH_l72, mH_l73, mH_l74, mH_l75, mH_c, r0, z13]) rfl rfl (by decide) (by decide) rfl ?_
    try simp (disch := omega) only [mH_t64, mH_r1, mH_r3, mH_r4, mH_r5, mH_r6, mH_r8, mH_r9, mH_r10, mH_r11, mH_r12, mH_r14, mH_i0, mH_i2, mH_i7, mH_i13, mH_i15, mH_t71, mH_t, mH_lr, mH_l65, mH_l69, mH_l70, mH_l71, mH_l72, mH_l73, mH_l74, mH_l75, mH_c, r0, z13]
    refine e_step (pc' := 38) hK rfl rfl rfl ?_
    refine e_step (pc' := 39) hK rfl rfl rfl ?_
    refine e_i2l (pc' := 40) hK rfl (by first | omega | exact bo_i _ | (simp only [Bool.and_eq_true, decide_eq_true_eq] at hb43; omega)) rfl ?_
    refine e_cRS3 (z := 109) (pc' := 43) hK rfl rfl rfl (Nat.le_of_ble_eq_true rfl) (Nat.le_of_ble_eq_true rfl) (m_in x 0 (0 - 1) (by omega) (by omega) (by omega)) (by decide) rfl ?_
    try simp (disch := omega) only [mH_t64, mH_r1, mH_r3, mH_r4, mH_r5, mH_r6, mH_r8, mH_r9, mH_r10, mH_r11, mH_r12, mH_r14, mH_i0, mH_i2, mH_i7, mH_i13, mH_i15, mH_t71, mH_t, mH_lr, mH_l65, mH_l69, mH_l70, mH_l71, mH_l72, mH_l73, mH_l74, mH_l75, mH_c, r0, z13]
    refine e_if (t := 50) (pc' := 46) hK rfl (by first | omega | exact bo_i _ | (simp only [Bool.and_eq_true, decide_eq_true_eq] at hb43; omega)) (by decide) rfl (fun hb43 => ?_) (fun hb43 => ?_)
    · replace hb43 := cq_eq.1.mp hb43
      try simp only [bo_0, Bool.not_eq_false] at hb43
      simp only [Bool.and_eq_false_iff, decide_eq_false_iff_not] at hb43
      refine e_step (pc' := 51) hK rfl rfl rfl ?_
      refine e_cQV2 (z := 110) hK rfl rfl (by first | (simp (disch := omega) only [mH_t64, mH_r1, mH_r3, mH_r4, mH_r5, mH_r6, mH_r8, mH_r9, mH_r10, mH_r11, mH_r12, mH_r14, mH_i0, mH_i2, mH_i7, mH_i13, mH_i15, mH_t71, mH_t, mH_lr, mH_l65, mH_l69, mH_l70, mH_l71, mH_l72, mH_l73, mH_l74, mH_l75, mH_c, r0, z13]; rfl) | (show _ = 2; assumption) | (show _ = 1; assumption) | (show _ = 0; assumption) | (show _ = 3; assumption) | (show _ = 4; assumption)) rfl (Nat.le_of_ble_eq_true rfl) (Nat.le_of_ble_eq_true rfl) (m_refP 1 (by omega)) ?_
      rintro _ _ _ ⟨rfl, rfl, rfl⟩
      refine ⟨by show (0 : Nat) ≠ 4; decide, ?_⟩
      rw [if_neg (by show ¬ (0 : Nat) = 3; decide)]
      try dsimp only
      have hM1 := hMw.rf 1
      obtain ⟨v1, hv1⟩ : ∃ v1, v1 = gu w2 264 (mv_up (w2 264) 0 1) := ⟨_, rfl⟩
      rw [← hv1] at hM1 ⊢
      have z1 : v1 264 0 = 1 := by { rw [hv1, gu_s, up_s] }
      have eo1 : ∀ b : Int, b ≠ 264 → v1 b = w2 b := fun b hb => by { rw [hv1]; exact gu_n hb }
      have ef1 : ∀ k : Int, k ≠ 0 → v1 264 k = w2 264 k := fun k hk => by { rw [hv1, gu_s, up_n hk] }
      have hR1 := hM1.2.1
      have ra1 := hR1.1
      have rb1 := hR1.2.1
      clear hv1
      show mv_Ev _ _ 54 _ _ _ _ _
      refine e_if (t := 59) (pc' := 57) hK rfl (by first | omega | exact bo_i _ | (simp only [Bool.and_eq_true, decide_eq_true_eq] at hb43; omega)) (by decide) rfl (fun hb54 => ?_) (fun hb54 => ?_)
      · replace hb54 := cq_eq.1.mp hb54
        try simp only [bo_0, Bool.not_eq_false] at hb54
        exfalso; first | omega | exact absurd trivial (by assumption) | (first | omega | exact bo_i _ | (simp only [Bool.and_eq_true, decide_eq_true_eq] at hb43; omega))
      · replace hb54 := cq_eq.2.mp hb54
        try simp only [bo_0, Bool.not_eq_false] at hb54
        refine e_step (pc' := 58) hK rfl rfl rfl ?_
        refine e_ret hK rfl rfl rfl ?_
        have e9 : sp_value W i x = (1, 0, W) := by { unfold sp_value; (repeat (first | rw [if_pos (by omega)] | rw [if_neg (by omega)])) }
        rw [e9]
        exact ⟨rfl, rfl, v1, rfl, hM1, z1⟩
    · replace hb43 := cq_eq.2.mp hb43
      try simp only [bo_0, Bool.not_eq_false] at hb43
      exfalso; first | omega | exact absurd trivial (by assumption) | (first | omega | exact bo_i _ | (simp only [Bool.and_eq_true, decide_eq_true_eq] at hb43; omega))
  · replace hb9 := cq_eq.2.mp hb9
    try simp only [bo_0, Bool.not_eq_false] at hb9
    simp only [Bool.and_eq_true, decide_eq_true_eq] at hb9
    have i0 : 0 ≤ i ∧ i < gn (wA W) := by omega
    have lbx := xn_b (gLok hI i0.1 i0.2)
    refine e_step (pc' := 13) hK rfl rfl rfl ?_
    refine e_step (pc' := 14) hK rfl rfl rfl ?_
    refine e_getR (ci := 4) (k := 3) (pc' := 17) hK rfl (by simp (disch := omega) only [mH_t64, mH_r1, mH_r3, mH_r4, mH_r5, mH_r6, mH_r8, mH_r9, mH_r10, mH_r11, mH_r12, mH_r14, mH_i0, mH_i2, mH_i7, mH_i13, mH_i15, mH_t71, mH_t, mH_lr, mH_l65, mH_l69, mH_l70, mH_l71, mH_l72, mH_l73, mH_l74, mH_l75, mH_c, r0]) rfl rfl (by decide) (by decide) (by (try simp (disch := omega) only [mH_t64, mH_r1, mH_r3, mH_r4, mH_r5, mH_r6, mH_r8, mH_r9, mH_r10, mH_r11, mH_r12, mH_r14, mH_i0, mH_i2, mH_i7, mH_i13, mH_i15, mH_t71, mH_t, mH_lr, mH_l65, mH_l69, mH_l70, mH_l71, mH_l72, mH_l73, mH_l74, mH_l75, mH_c, r0]); first | omega | exact bo_i _ | (simp only [Bool.and_eq_true, decide_eq_true_eq] at hb43; omega)) rfl ?_
    try simp (disch := omega) only [mH_t64, mH_r1, mH_r3, mH_r4, mH_r5, mH_r6, mH_r8, mH_r9, mH_r10, mH_r11, mH_r12, mH_r14, mH_i0, mH_i2, mH_i7, mH_i13, mH_i15, mH_t71, mH_t, mH_lr, mH_l65, mH_l69, mH_l70, mH_l71, mH_l72, mH_l73, mH_l74, mH_l75, mH_c, r0]
    refine e_step (pc' := 18) hK rfl rfl rfl ?_
    refine e_step (pc' := 19) hK rfl rfl rfl ?_
    refine e_cQV4 (z := 123) hK rfl rfl (by first | (simp (disch := omega) only [mH_t64, mH_r1, mH_r3, mH_r4, mH_r5, mH_r6, mH_r8, mH_r9, mH_r10, mH_r11, mH_r12, mH_r14, mH_i0, mH_i2, mH_i7, mH_i13, mH_i15, mH_t71, mH_t, mH_lr, mH_l65, mH_l69, mH_l70, mH_l71, mH_l72, mH_l73, mH_l74, mH_l75, mH_c, r0]; rfl) | (show _ = 2; assumption) | (show _ = 1; assumption) | (show _ = 0; assumption) | (show _ = 3; assumption) | (show _ = 4; assumption)) rfl (Nat.le_of_ble_eq_true rfl) (Nat.le_of_ble_eq_true rfl) (m_cut 266 (by omega) i 0 ⟨i0.1, by omega⟩ (Or.inl rfl) (gLok hI i0.1 i0.2) (hR.2.2.1 i i0.1 i0.2).1) ?_
    rintro _ _ _ ⟨rfl, rfl, w, rfl, hw, kw⟩
    refine ⟨by show (0 : Nat) ≠ 4; decide, ?_⟩
    rw [if_neg (by show ¬ (0 : Nat) = 3; decide)]
    try dsimp only
    show mv_Ev _ _ 22 _ _ _ _ _
    refine e_goto (t := 26) hK rfl (by decide) ?_
    refine e_put (ci := 4) (k := 13) (pc' := 29) hK rfl (by simp (disch := omega) only [mH_t64, mH_r1, mH_r3, mH_r4, mH_r5, mH_r6, mH_r8, mH_r9, mH_r10, mH_r11, mH_r12, mH_r14, mH_i0, mH_i2, mH_i7, mH_i13, mH_i15, mH_t71, mH_t, mH_lr, mH_l65, mH_l69, mH_l70, mH_l71, mH_l72, mH_l73, mH_l74, mH_l75, mH_c, r0]) rfl rfl (by decide) rfl rfl ?_
    simp (disch := omega) only [mW_0, mW_2, mW_7, mW_13, mW_15, mW_a, gu_s]
    have hMw : MdA (gu w 264 (mv_up (w 264) 13 (xn (gL (wA W) i)))) W := (hM0.ms hw.1).kq (fun b hb => gu_n (by omega)) (by rw [gu_s, up_n (by omega)]) (by rw [gu_s, up_n (by omega)])
    have z13 : gu w 264 (mv_up (w 264) 13 (xn (gL (wA W) i))) 264 13 = xn (gL (wA W) i) := by { rw [gu_s, up_s] }
    have kw2 : Ct (gu w 264 (mv_up (w 264) 13 (xn (gL (wA W) i)))) 0 (2 + 42 * i + 2) (px (gL (wA W) i).2 (gL (wA W) i).1) := fun p p0 p1 => by { rw [gu_n (by omega), gu_n (by omega), gu_n (by omega)]; exact kw p p0 p1 }
    generalize gu w 264 (mv_up (w 264) 13 (xn (gL (wA W) i))) = w2 at *
    refine e_step (pc' := 30) hK rfl rfl rfl ?_
    refine e_step (pc' := 31) hK rfl rfl rfl ?_
    refine e_i2l (pc' := 32) hK rfl (by first | omega | exact bo_i _ | (simp only [Bool.and_eq_true, decide_eq_true_eq] at hb43; omega)) rfl ?_
    refine e_step (pc' := 33) hK rfl rfl rfl ?_
    show mv_Ev _ _ 33 _ ((1, (0 : Int)) :: _) _ _ _
    refine e_step (pc' := 34) hK rfl rfl rfl ?_
    refine e_getI (ci := 4) (k := 13) (pc' := 37) hK rfl (by simp (disch := omega) only [mH_t64, mH_r1, mH_r3, mH_r4, mH_r5, mH_r6, mH_r8, mH_r9, mH_r10, mH_r11, mH_r12, mH_r14, mH_i0, mH_i2, mH_i7, mH_i13, mH_i15, mH_t71, mH_t, mH_lr, mH_l65, mH_l69, mH_l70, mH_l71, mH_l72, mH_l73, mH_l74, mH_l75, mH_c, r0, z13]) rfl rfl (by decide) (by decide) rfl ?_
    try simp (disch := omega) only [mH_t64, mH_r1, mH_r3, mH_r4, mH_r5, mH_r6, mH_r8, mH_r9, mH_r10, mH_r11, mH_r12, mH_r14, mH_i0, mH_i2, mH_i7, mH_i13, mH_i15, mH_t71, mH_t, mH_lr, mH_l65, mH_l69, mH_l70, mH_l71, mH_l72, mH_l73, mH_l74, mH_l75, mH_c, r0, z13]
    refine e_step (pc' := 38) hK rfl rfl rfl ?_
    refine e_step (pc' := 39) hK rfl rfl rfl ?_
    refine e_i2l (pc' := 40) hK rfl (by first | omega | exact bo_i _ | (simp only [Bool.and_eq_true, decide_eq_true_eq] at hb43; omega)) rfl ?_
    refine e_cRS3 (z := 109) (pc' := 43) hK rfl rfl rfl (Nat.le_of_ble_eq_true rfl) (Nat.le_of_ble_eq_true rfl) (m_in x 0 (xn (gL (wA W) i) - 1) (by omega) (by omega) (by omega)) (by decide) rfl ?_
    try simp (disch := omega) only [mH_t64, mH_r1, mH_r3, mH_r4, mH_r5, mH_r6, mH_r8, mH_r9, mH_r10, mH_r11, mH_r12, mH_r14, mH_i0, mH_i2, mH_i7, mH_i13, mH_i15, mH_t71, mH_t, mH_lr, mH_l65, mH_l69, mH_l70, mH_l71, mH_l72, mH_l73, mH_l74, mH_l75, mH_c, r0, z13]
    refine e_if (t := 50) (pc' := 46) hK rfl (by first | omega | exact bo_i _ | (simp only [Bool.and_eq_true, decide_eq_true_eq] at hb43; omega)) (by decide) rfl (fun hb43 => ?_) (fun hb43 => ?_)
    · replace hb43 := cq_eq.1.mp hb43
      try simp only [bo_0, Bool.not_eq_false] at hb43
      simp only [Bool.and_eq_false_iff, decide_eq_false_iff_not] at hb43
      refine e_step (pc' := 51) hK rfl rfl rfl ?_
      refine e_cQV2 (z := 110) hK rfl rfl (by first | (simp (disch := omega) only [mH_t64, mH_r1, mH_r3, mH_r4, mH_r5, mH_r6, mH_r8, mH_r9, mH_r10, mH_r11, mH_r12, mH_r14, mH_i0, mH_i2, mH_i7, mH_i13, mH_i15, mH_t71, mH_t, mH_lr, mH_l65, mH_l69, mH_l70, mH_l71, mH_l72, mH_l73, mH_l74, mH_l75, mH_c, r0, z13]; rfl) | (show _ = 2; assumption) | (show _ = 1; assumption) | (show _ = 0; assumption) | (show _ = 3; assumption) | (show _ = 4; assumption)) rfl (Nat.le_of_ble_eq_true rfl) (Nat.le_of_ble_eq_true rfl) (m_refP 1 (by omega)) ?_
      rintro _ _ _ ⟨rfl, rfl, rfl⟩
      refine ⟨by show (0 : Nat) ≠ 4; decide, ?_⟩
      rw [if_neg (by show ¬ (0 : Nat) = 3; decide)]
      try dsimp only
      have hM1 := hMw.rf 1
      obtain ⟨v1, hv1⟩ : ∃ v1, v1 = gu w2 264 (mv_up (w2 264) 0 1) := ⟨_, rfl⟩
      rw [← hv1] at hM1 ⊢
      have z1 : v1 264 0 = 1 := by { rw [hv1, gu_s, up_s] }
      have eo1 : ∀ b : Int, b ≠ 264 → v1 b = w2 b := fun b hb => by { rw [hv1]; exact gu_n hb }
      have ef1 : ∀ k : Int, k ≠ 0 → v1 264 k = w2 264 k := fun k hk => by { rw [hv1, gu_s, up_n hk] }
      have hR1 := hM1.2.1
      have ra1 := hR1.1
      have rb1 := hR1.2.1
      clear hv1
      show mv_Ev _ _ 54 _ _ _ _ _
      refine e_if (t := 59) (pc' := 57) hK rfl (by first | omega | exact bo_i _ | (simp only [Bool.and_eq_true, decide_eq_true_eq] at hb43; omega)) (by decide) rfl (fun hb54 => ?_) (fun hb54 => ?_)
      · replace hb54 := cq_eq.1.mp hb54
        try simp only [bo_0, Bool.not_eq_false] at hb54
        exfalso; first | omega | exact absurd trivial (by assumption) | (first | omega | exact bo_i _ | (simp only [Bool.and_eq_true, decide_eq_true_eq] at hb43; omega))
      · replace hb54 := cq_eq.2.mp hb54
        try simp only [bo_0, Bool.not_eq_false] at hb54
        refine e_step (pc' := 58) hK rfl rfl rfl ?_
        refine e_ret hK rfl rfl rfl ?_
        have e9 : sp_value W i x = (1, 0, W) := by { unfold sp_value; rw [gl_L i0.1 i0.2]; (repeat (first | rw [if_pos (by omega)] | rw [if_neg (by omega)])) }
        rw [e9]
        exact ⟨rfl, rfl, v1, rfl, hM1, z1⟩
    · replace hb43 := cq_eq.2.mp hb43
      try simp only [bo_0, Bool.not_eq_false] at hb43
      simp only [Bool.and_eq_true, decide_eq_true_eq] at hb43
      refine e_step (pc' := 47) hK rfl rfl rfl ?_
      refine e_goto (t := 51) hK rfl (by decide) ?_
      refine e_cQV2 (z := 110) hK rfl rfl (by first | (simp (disch := omega) only [mH_t64, mH_r1, mH_r3, mH_r4, mH_r5, mH_r6, mH_r8, mH_r9, mH_r10, mH_r11, mH_r12, mH_r14, mH_i0, mH_i2, mH_i7, mH_i13, mH_i15, mH_t71, mH_t, mH_lr, mH_l65, mH_l69, mH_l70, mH_l71, mH_l72, mH_l73, mH_l74, mH_l75, mH_c, r0, z13]; rfl) | (show _ = 2; assumption) | (show _ = 1; assumption) | (show _ = 0; assumption) | (show _ = 3; assumption) | (show _ = 4; assumption)) rfl (Nat.le_of_ble_eq_true rfl) (Nat.le_of_ble_eq_true rfl) (m_ref0) ?_
      rintro _ _ _ ⟨rfl, rfl, rfl⟩
      refine ⟨by show (0 : Nat) ≠ 4; decide, ?_⟩
      rw [if_neg (by show ¬ (0 : Nat) = 3; decide)]
      try dsimp only
      have hM1 := hMw.rf 0
      obtain ⟨v1, hv1⟩ : ∃ v1, v1 = gu w2 264 (mv_up (w2 264) 0 0) := ⟨_, rfl⟩
      rw [← hv1] at hM1 ⊢
      have z1 : v1 264 0 = 0 := by { rw [hv1, gu_s, up_s] }
      have eo1 : ∀ b : Int, b ≠ 264 → v1 b = w2 b := fun b hb => by { rw [hv1]; exact gu_n hb }
      have ef1 : ∀ k : Int, k ≠ 0 → v1 264 k = w2 264 k := fun k hk => by { rw [hv1, gu_s, up_n hk] }
      have hR1 := hM1.2.1
      have ra1 := hR1.1
      have rb1 := hR1.2.1
      clear hv1
      show mv_Ev _ _ 54 _ _ _ _ _
      refine e_if (t := 59) (pc' := 57) hK rfl (by first | omega | exact bo_i _ | (simp only [Bool.and_eq_true, decide_eq_true_eq] at hb43; omega)) (by decide) rfl (fun hb54 => ?_) (fun hb54 => ?_)
      · replace hb54 := cq_eq.1.mp hb54
        try simp only [bo_0, Bool.not_eq_false] at hb54
        have hp : Pc v1 (v1 266) x i (gL (wA W) i) x := by { have h9 := Pc_of (o := 0) (U := x) (p := x) kw2 (hMw.2.1.2.2.1 i i0.1 i0.2).1 ⟨by omega, by omega⟩ (gLok hI i0.1 i0.2) (Or.inl rfl) (by omega) (by omega) (by omega); rw [eo1 266 (by omega)]; unfold Pc at *; rw [eo1 272 (by omega), eo1 273 (by omega), eo1 274 (by omega)]; exact h9 }
        have zk := hp.2.2.2.2
        have egl := gl_L (A := wA W) i0.1 i0.2
        have pb := Pc_b hp
        refine e_step (pc' := 60) hK rfl rfl rfl ?_
        refine e_getR (ci := 4) (k := 12) (pc' := 63) hK rfl (by simp (disch := omega) only [mH_t64, mH_r1, mH_r3, mH_r4, mH_r5, mH_r6, mH_r8, mH_r9, mH_r10, mH_r11, mH_r12, mH_r14, mH_i0, mH_i2, mH_i7, mH_i13, mH_i15, mH_t71, mH_t, mH_lr, mH_l65, mH_l69, mH_l70, mH_l71, mH_l72, mH_l73, mH_l74, mH_l75, mH_c, r0, z13, ra1, rb1, zk]) rfl rfl (by decide) (by decide) (by (try simp (disch := omega) only [mH_t64, mH_r1, mH_r3, mH_r4, mH_r5, mH_r6, mH_r8, mH_r9, mH_r10, mH_r11, mH_r12, mH_r14, mH_i0, mH_i2, mH_i7, mH_i13, mH_i15, mH_t71, mH_t, mH_lr, mH_l65, mH_l69, mH_l70, mH_l71, mH_l72, mH_l73, mH_l74, mH_l75, mH_c, r0, z13, ra1, rb1, zk]); first | omega | exact bo_i _ | (simp only [Bool.and_eq_true, decide_eq_true_eq] at hb43; omega)) rfl ?_
        try simp (disch := omega) only [mH_t64, mH_r1, mH_r3, mH_r4, mH_r5, mH_r6, mH_r8, mH_r9, mH_r10, mH_r11, mH_r12, mH_r14, mH_i0, mH_i2, mH_i7, mH_i13, mH_i15, mH_t71, mH_t, mH_lr, mH_l65, mH_l69, mH_l70, mH_l71, mH_l72, mH_l73, mH_l74, mH_l75, mH_c, r0, z13, ra1, rb1, zk]
        refine e_step (pc' := 64) hK rfl rfl rfl ?_
        refine e_iald (pc' := 65) hK rfl (by simp (disch := omega) only [mH_t64, mH_r1, mH_r3, mH_r4, mH_r5, mH_r6, mH_r8, mH_r9, mH_r10, mH_r11, mH_r12, mH_r14, mH_i0, mH_i2, mH_i7, mH_i13, mH_i15, mH_t71, mH_t, mH_lr, mH_l65, mH_l69, mH_l70, mH_l71, mH_l72, mH_l73, mH_l74, mH_l75, mH_c, r0, z13, ra1, rb1, zk]) (by first | omega | exact bo_i _ | (simp only [Bool.and_eq_true, decide_eq_true_eq] at hb43; omega)) (by (try simp (disch := omega) only [mH_t64, mH_r1, mH_r3, mH_r4, mH_r5, mH_r6, mH_r8, mH_r9, mH_r10, mH_r11, mH_r12, mH_r14, mH_i0, mH_i2, mH_i7, mH_i13, mH_i15, mH_t71, mH_t, mH_lr, mH_l65, mH_l69, mH_l70, mH_l71, mH_l72, mH_l73, mH_l74, mH_l75, mH_c, r0, z13, ra1, rb1, zk]); first | omega | exact bo_i _ | (simp only [Bool.and_eq_true, decide_eq_true_eq] at hb43; omega)) rfl ?_
        try simp (disch := omega) only [mH_t64, mH_r1, mH_r3, mH_r4, mH_r5, mH_r6, mH_r8, mH_r9, mH_r10, mH_r11, mH_r12, mH_r14, mH_i0, mH_i2, mH_i7, mH_i13, mH_i15, mH_t71, mH_t, mH_lr, mH_l65, mH_l69, mH_l70, mH_l71, mH_l72, mH_l73, mH_l74, mH_l75, mH_c, r0, z13, ra1, rb1, zk]
        refine e_step (pc' := 66) hK rfl rfl rfl ?_
        refine e_icmp (t := 81) (pc' := 69) hK rfl (by first | omega | exact bo_i _ | (simp only [Bool.and_eq_true, decide_eq_true_eq] at hb43; omega)) (by first | omega | exact bo_i _ | (simp only [Bool.and_eq_true, decide_eq_true_eq] at hb43; omega)) (by decide) rfl (fun hb66 => ?_) (fun hb66 => ?_)
        · replace hb66 := cq_ne.1.mp hb66
          try simp only [bo_0, Bool.not_eq_false] at hb66
          refine e_step (pc' := 84) hK rfl rfl rfl ?_
          refine e_ret hK rfl rfl rfl ?_
          have e9 : sp_value W i x = (0, -9999, W) := by { unfold sp_value; rw [egl, xv_n hb66]; (repeat (first | rw [if_pos (by omega)] | rw [if_neg (by omega)])) }
          rw [e9]
          exact ⟨rfl, rfl, v1, rfl, hM1, z1⟩
        · replace hb66 := cq_ne.2.mp hb66
          try simp only [bo_0, Bool.not_eq_false] at hb66
          refine e_step (pc' := 70) hK rfl rfl rfl ?_
          refine e_step (pc' := 71) hK rfl rfl rfl ?_
          refine e_getR (ci := 4) (k := 3) (pc' := 74) hK rfl (by simp (disch := omega) only [mH_t64, mH_r1, mH_r3, mH_r4, mH_r5, mH_r6, mH_r8, mH_r9, mH_r10, mH_r11, mH_r12, mH_r14, mH_i0, mH_i2, mH_i7, mH_i13, mH_i15, mH_t71, mH_t, mH_lr, mH_l65, mH_l69, mH_l70, mH_l71, mH_l72, mH_l73, mH_l74, mH_l75, mH_c, r0, z13, ra1, rb1, zk]) rfl rfl (by decide) (by decide) (by (try simp (disch := omega) only [mH_t64, mH_r1, mH_r3, mH_r4, mH_r5, mH_r6, mH_r8, mH_r9, mH_r10, mH_r11, mH_r12, mH_r14, mH_i0, mH_i2, mH_i7, mH_i13, mH_i15, mH_t71, mH_t, mH_lr, mH_l65, mH_l69, mH_l70, mH_l71, mH_l72, mH_l73, mH_l74, mH_l75, mH_c, r0, z13, ra1, rb1, zk]); first | omega | exact bo_i _ | (simp only [Bool.and_eq_true, decide_eq_true_eq] at hb43; omega)) rfl ?_
          try simp (disch := omega) only [mH_t64, mH_r1, mH_r3, mH_r4, mH_r5, mH_r6, mH_r8, mH_r9, mH_r10, mH_r11, mH_r12, mH_r14, mH_i0, mH_i2, mH_i7, mH_i13, mH_i15, mH_t71, mH_t, mH_lr, mH_l65, mH_l69, mH_l70, mH_l71, mH_l72, mH_l73, mH_l74, mH_l75, mH_c, r0, z13, ra1, rb1, zk]
          refine e_step (pc' := 75) hK rfl rfl rfl ?_
          refine e_cRV3 (z := 124) (pc' := 78) hK rfl rfl (by first | (simp (disch := omega) only [mH_t64, mH_r1, mH_r3, mH_r4, mH_r5, mH_r6, mH_r8, mH_r9, mH_r10, mH_r11, mH_r12, mH_r14, mH_i0, mH_i2, mH_i7, mH_i13, mH_i15, mH_t71, mH_t, mH_lr, mH_l65, mH_l69, mH_l70, mH_l71, mH_l72, mH_l73, mH_l74, mH_l75, mH_c, r0, z13, ra1, rb1, zk]; rfl) | (show _ = 2; assumption) | (show _ = 1; assumption) | (show _ = 0; assumption) | (show _ = 3; assumption) | (show _ = 4; assumption)) rfl (Nat.le_of_ble_eq_true rfl) (Nat.le_of_ble_eq_true rfl) (m_val 266 (by omega) hp hb66) (by decide) rfl ?_
          try simp (disch := omega) only [mH_t64, mH_r1, mH_r3, mH_r4, mH_r5, mH_r6, mH_r8, mH_r9, mH_r10, mH_r11, mH_r12, mH_r14, mH_i0, mH_i2, mH_i7, mH_i13, mH_i15, mH_t71, mH_t, mH_lr, mH_l65, mH_l69, mH_l70, mH_l71, mH_l72, mH_l73, mH_l74, mH_l75, mH_c, r0, z13, ra1, rb1, zk]
          refine e_goto (t := 84) hK rfl (by decide) ?_
          refine e_ret hK rfl rfl rfl ?_
          have e9 : sp_value W i x = (0, xv (gL (wA W) i) x, W) := by { unfold sp_value; rw [egl]; (repeat (first | rw [if_pos (by omega)] | rw [if_neg (by omega)])) }
          rw [e9]
          exact ⟨rfl, rfl, v1, rfl, hM1, z1⟩
      · replace hb54 := cq_eq.2.mp hb54
        try simp only [bo_0, Bool.not_eq_false] at hb54
        exfalso; first | omega | exact absurd trivial (by assumption) | (first | omega | exact bo_i _ | (simp only [Bool.and_eq_true, decide_eq_true_eq] at hb43; omega))
theorem hasv_m {x : xt} {y : Int} (h0 : 0 ≤ y) : hasv x y = lo (fun p => decide (xk x p = 3) && decide (xv x p = y)) (xn x).toNat := by
  unfold hasv
  refine lo_ext (fun p hp => ?_)
  show decide (xv x p = y) = (decide (xk x p = 3) && decide (xv x p = y))
  by_cases h : xk x p = 3
  · rw [decide_eq_true h]; rfl
  · rw [decide_eq_false h, xv_n h, decide_eq_false (by omega)]; rfl
set_option maxRecDepth 10000 in
theorem g_wvI {v0 : mvt} {A : lg} (hR : Rw (v0 266) A) (hI : gI A) (x : Int) (hx : 0 ≤ x ∧ x ≤ 999999) (i : Nat) (hi : (i : Int) < gn A) (w : mvt) (hw : ms v0 w) (hp : ∀ r : Int, 0 ≤ r → r < xn (gL A (i : Int)) → Pc w (w 266) r i (gL A (i : Int)) r) (n : Int) (K : ∀ (a5 : mv_V), mv_Ev sc 176 108 [(2, 264), (0, x), (0, n), (0, (i : Int)), (0, xn (gL A (i : Int))), (0, mv_bo (lo (fun p => decide (xk (gL A (i : Int)) p = 3) && decide (xv (gL A (i : Int)) p = x)) (xn (gL A (i : Int))).toNat)), a5] [] c (mH h w) (mv_Ms h v0 (clv A x) c)) : ∀ (m : Nat) (k : Nat) (b9 : Bool), (k + m = (xn (gL A (i : Int))).toNat ∧ b9 = lo (fun p => decide (xk (gL A (i : Int)) p = 3) && decide (xv (gL A (i : Int)) p = x)) k) → mv_Ev sc 176 58 [(2, 264), (0, x), (0, n), (0, (i : Int)), (0, xn (gL A (i : Int))), (0, mv_bo b9), (0, (k : Int))] [] c (mH h w) (mv_Ms h v0 (clv A x) c) := by
  intro m
  induction m with
  | zero =>
    intro k b9 ⟨hk, hlo⟩
    have b3 := xn_b (gLok hI (show (0 : Int) ≤ i by omega) hi)
    have hK : (mv_m 176).1 = kc_Mod_withValue := rfl
    refine e_step (pc' := 60) hK rfl rfl rfl ?_
    refine e_step (pc' := 62) hK rfl rfl rfl ?_
    refine e_icmp (t := 108) (pc' := 65) hK rfl (by first | omega | exact bo_i _) (by first | omega | exact bo_i _) (by decide) rfl (fun hb62 => ?_) (fun hb62 => ?_)
    · replace hb62 := cq_ge.1.mp hb62
      try simp only [bo_0, Bool.not_eq_false] at hb62
      rw [hlo, show k = (xn (gL A (i : Int))).toNat from by omega]
      exact K _
    · replace hb62 := cq_ge.2.mp hb62
      try simp only [bo_0, Bool.not_eq_false] at hb62
      exfalso; first | omega | exact absurd trivial (by assumption) | (first | omega | exact bo_i _)
  | succ m ih =>
    intro k b9 ⟨hk, hlo⟩
    have b3 := xn_b (gLok hI (show (0 : Int) ≤ i by omega) hi)
    have hK : (mv_m 176).1 = kc_Mod_withValue := rfl
    refine e_step (pc' := 60) hK rfl rfl rfl ?_
    refine e_step (pc' := 62) hK rfl rfl rfl ?_
    refine e_icmp (t := 108) (pc' := 65) hK rfl (by first | omega | exact bo_i _) (by first | omega | exact bo_i _) (by decide) rfl (fun hb62 => ?_) (fun hb62 => ?_)
    · replace hb62 := cq_ge.1.mp hb62
      try simp only [bo_0, Bool.not_eq_false] at hb62
      exfalso; first | omega | exact absurd trivial (by assumption) | (first | omega | exact bo_i _)
    · replace hb62 := cq_ge.2.mp hb62
      try simp only [bo_0, Bool.not_eq_false] at hb62
      refine e_step (pc' := 67) hK rfl rfl rfl ?_
      refine e_if (t := 95) (pc' := 70) hK rfl (by first | omega | exact bo_i _) (by decide) rfl (fun hb67 => ?_) (fun hb67 => ?_)
      · replace hb67 := cq_ne.1.mp hb67
        try simp only [bo_0, Bool.not_eq_false] at hb67
        refine e_step (pc' := 96) hK rfl rfl rfl ?_
        refine e_goto (t := 100) hK rfl (by decide) ?_
        refine e_step (pc' := 102) hK rfl rfl rfl ?_
        try simp only [List.set_cons_zero, List.set_cons_succ]
        refine e_step (pc' := 105) hK rfl rfl rfl ?_
        try simp only [List.set_cons_zero, List.set_cons_succ]
        refine e_goto (t := 58) hK rfl (by decide) ?_
        exact ih (k + 1) true ⟨by omega, Eq.symm (by { rw [show b9 = true from hb67] at hlo; show (lo (fun p => decide (xk (gL A (i : Int)) p = 3) && decide (xv (gL A (i : Int)) p = x)) k || _) = true; rw [← hlo]; rfl })⟩
      · replace hb67 := cq_ne.2.mp hb67
        try simp only [bo_0, Bool.not_eq_false] at hb67
        have hpk := hp k (by omega) (by omega)
        have zk := hpk.2.2.2.2
        have bk := Pc_b hpk
        refine e_step (pc' := 71) hK rfl rfl rfl ?_
        refine e_getR (ci := 4) (k := 12) (pc' := 74) hK rfl (by simp (disch := omega) only [mH_t64, mH_r1, mH_r3, mH_r4, mH_r5, mH_r6, mH_r8, mH_r9, mH_r10, mH_r11, mH_r12, mH_r14, mH_i0, mH_i2, mH_i7, mH_i13, mH_i15, mH_t71, mH_t, mH_lr, mH_l65, mH_l69, mH_l70, mH_l71, mH_l72, mH_l73, mH_l74, mH_l75, mH_c, zk]) rfl rfl (by decide) (by decide) (by (try simp (disch := omega) only [mH_t64, mH_r1, mH_r3, mH_r4, mH_r5, mH_r6, mH_r8, mH_r9, mH_r10, mH_r11, mH_r12, mH_r14, mH_i0, mH_i2, mH_i7, mH_i13, mH_i15, mH_t71, mH_t, mH_lr, mH_l65, mH_l69, mH_l70, mH_l71, mH_l72, mH_l73, mH_l74, mH_l75, mH_c, zk]); first | omega | exact bo_i _) rfl ?_
        try simp (disch := omega) only [mH_t64, mH_r1, mH_r3, mH_r4, mH_r5, mH_r6, mH_r8, mH_r9, mH_r10, mH_r11, mH_r12, mH_r14, mH_i0, mH_i2, mH_i7, mH_i13, mH_i15, mH_t71, mH_t, mH_lr, mH_l65, mH_l69, mH_l70, mH_l71, mH_l72, mH_l73, mH_l74, mH_l75, mH_c, zk]
        refine e_step (pc' := 76) hK rfl rfl rfl ?_
        refine e_iald (pc' := 77) hK rfl (by simp (disch := omega) only [mH_t64, mH_r1, mH_r3, mH_r4, mH_r5, mH_r6, mH_r8, mH_r9, mH_r10, mH_r11, mH_r12, mH_r14, mH_i0, mH_i2, mH_i7, mH_i13, mH_i15, mH_t71, mH_t, mH_lr, mH_l65, mH_l69, mH_l70, mH_l71, mH_l72, mH_l73, mH_l74, mH_l75, mH_c, zk]) (by first | omega | exact bo_i _) (by (try simp (disch := omega) only [mH_t64, mH_r1, mH_r3, mH_r4, mH_r5, mH_r6, mH_r8, mH_r9, mH_r10, mH_r11, mH_r12, mH_r14, mH_i0, mH_i2, mH_i7, mH_i13, mH_i15, mH_t71, mH_t, mH_lr, mH_l65, mH_l69, mH_l70, mH_l71, mH_l72, mH_l73, mH_l74, mH_l75, mH_c, zk]); first | omega | exact bo_i _) rfl ?_
        try simp (disch := omega) only [mH_t64, mH_r1, mH_r3, mH_r4, mH_r5, mH_r6, mH_r8, mH_r9, mH_r10, mH_r11, mH_r12, mH_r14, mH_i0, mH_i2, mH_i7, mH_i13, mH_i15, mH_t71, mH_t, mH_lr, mH_l65, mH_l69, mH_l70, mH_l71, mH_l72, mH_l73, mH_l74, mH_l75, mH_c, zk]
        refine e_step (pc' := 78) hK rfl rfl rfl ?_
        refine e_icmp (t := 99) (pc' := 81) hK rfl (by first | omega | exact bo_i _) (by first | omega | exact bo_i _) (by decide) rfl (fun hb78 => ?_) (fun hb78 => ?_)
        · replace hb78 := cq_ne.1.mp hb78
          try simp only [bo_0, Bool.not_eq_false] at hb78
          refine e_step (pc' := 100) hK rfl rfl rfl ?_
          refine e_step (pc' := 102) hK rfl rfl rfl ?_
          try simp only [List.set_cons_zero, List.set_cons_succ]
          refine e_step (pc' := 105) hK rfl rfl rfl ?_
          try simp only [List.set_cons_zero, List.set_cons_succ]
          refine e_goto (t := 58) hK rfl (by decide) ?_
          exact ih (k + 1) false ⟨by omega, Eq.symm (by { show (lo (fun p => decide (xk (gL A (i : Int)) p = 3) && decide (xv (gL A (i : Int)) p = x)) k || (decide _ && decide _)) = false; rw [← hlo, show b9 = false from hb67, decide_eq_false hb78]; rfl })⟩
        · replace hb78 := cq_ne.2.mp hb78
          try simp only [bo_0, Bool.not_eq_false] at hb78
          refine e_step (pc' := 82) hK rfl rfl rfl ?_
          refine e_step (pc' := 83) hK rfl rfl rfl ?_
          refine e_getR (ci := 4) (k := 3) (pc' := 86) hK rfl (by simp (disch := omega) only [mH_t64, mH_r1, mH_r3, mH_r4, mH_r5, mH_r6, mH_r8, mH_r9, mH_r10, mH_r11, mH_r12, mH_r14, mH_i0, mH_i2, mH_i7, mH_i13, mH_i15, mH_t71, mH_t, mH_lr, mH_l65, mH_l69, mH_l70, mH_l71, mH_l72, mH_l73, mH_l74, mH_l75, mH_c, zk]) rfl rfl (by decide) (by decide) (by (try simp (disch := omega) only [mH_t64, mH_r1, mH_r3, mH_r4, mH_r5, mH_r6, mH_r8, mH_r9, mH_r10, mH_r11, mH_r12, mH_r14, mH_i0, mH_i2, mH_i7, mH_i13, mH_i15, mH_t71, mH_t, mH_lr, mH_l65, mH_l69, mH_l70, mH_l71, mH_l72, mH_l73, mH_l74, mH_l75, mH_c, zk]); first | omega | exact bo_i _) rfl ?_
          try simp (disch := omega) only [mH_t64, mH_r1, mH_r3, mH_r4, mH_r5, mH_r6, mH_r8, mH_r9, mH_r10, mH_r11, mH_r12, mH_r14, mH_i0, mH_i2, mH_i7, mH_i13, mH_i15, mH_t71, mH_t, mH_lr, mH_l65, mH_l69, mH_l70, mH_l71, mH_l72, mH_l73, mH_l74, mH_l75, mH_c, zk]
          refine e_step (pc' := 88) hK rfl rfl rfl ?_
          refine e_cRV3 (z := 124) (pc' := 91) hK rfl rfl (by first | (simp (disch := omega) only [mH_t64, mH_r1, mH_r3, mH_r4, mH_r5, mH_r6, mH_r8, mH_r9, mH_r10, mH_r11, mH_r12, mH_r14, mH_i0, mH_i2, mH_i7, mH_i13, mH_i15, mH_t71, mH_t, mH_lr, mH_l65, mH_l69, mH_l70, mH_l71, mH_l72, mH_l73, mH_l74, mH_l75, mH_c, zk]; rfl) | (show _ = 2; assumption) | (show _ = 1; assumption) | (show _ = 0; assumption) | (show _ = 3; assumption) | (show _ = 4; assumption)) rfl (Nat.le_of_ble_eq_true rfl) (Nat.le_of_ble_eq_true rfl) (m_val 266 (by omega) hpk hb78) (by decide) rfl ?_
          try simp (disch := omega) only [mH_t64, mH_r1, mH_r3, mH_r4, mH_r5, mH_r6, mH_r8, mH_r9, mH_r10, mH_r11, mH_r12, mH_r14, mH_i0, mH_i2, mH_i7, mH_i13, mH_i15, mH_t71, mH_t, mH_lr, mH_l65, mH_l69, mH_l70, mH_l71, mH_l72, mH_l73, mH_l74, mH_l75, mH_c, zk]
          have vk := xv_b3 (gLok hI (show (0 : Int) ≤ i by omega) hi) hb78
          refine e_step (pc' := 92) hK rfl rfl rfl ?_
          refine e_icmp (t := 99) (pc' := 95) hK rfl (by first | omega | exact bo_i _) (by first | omega | exact bo_i _) (by decide) rfl (fun hb92 => ?_) (fun hb92 => ?_)
          · replace hb92 := cq_ne.1.mp hb92
            try simp only [bo_0, Bool.not_eq_false] at hb92
            refine e_step (pc' := 100) hK rfl rfl rfl ?_
            refine e_step (pc' := 102) hK rfl rfl rfl ?_
            try simp only [List.set_cons_zero, List.set_cons_succ]
            refine e_step (pc' := 105) hK rfl rfl rfl ?_
            try simp only [List.set_cons_zero, List.set_cons_succ]
            refine e_goto (t := 58) hK rfl (by decide) ?_
            exact ih (k + 1) false ⟨by omega, Eq.symm (by { show (lo (fun p => decide (xk (gL A (i : Int)) p = 3) && decide (xv (gL A (i : Int)) p = x)) k || (decide _ && decide _)) = false; rw [← hlo, show b9 = false from hb67, decide_eq_false hb92, Bool.and_false]; rfl })⟩
          · replace hb92 := cq_ne.2.mp hb92
            try simp only [bo_0, Bool.not_eq_false] at hb92
            refine e_step (pc' := 96) hK rfl rfl rfl ?_
            refine e_goto (t := 100) hK rfl (by decide) ?_
            refine e_step (pc' := 102) hK rfl rfl rfl ?_
            try simp only [List.set_cons_zero, List.set_cons_succ]
            refine e_step (pc' := 105) hK rfl rfl rfl ?_
            try simp only [List.set_cons_zero, List.set_cons_succ]
            refine e_goto (t := 58) hK rfl (by decide) ?_
            exact ih (k + 1) true ⟨by omega, Eq.symm (by { show (lo (fun p => decide (xk (gL A (i : Int)) p = 3) && decide (xv (gL A (i : Int)) p = x)) k || (decide _ && decide _)) = true; rw [decide_eq_true hb78, decide_eq_true hb92]; exact Bool.or_true _ })⟩
set_option maxRecDepth 10000 in
theorem g_wvO {v0 : mvt} {A : lg} (hR : Rw (v0 266) A) (hI : gI A) (x : Int) (hx : 0 ≤ x ∧ x ≤ 999999) : ∀ (m : Nat) (i : Nat) (w : mvt) (a4 a5 a6 : mv_V), (i + m = gn A ∧ ms v0 w) → mv_Ev sc 176 30 [(2, 264), (0, x), (0, lc (fun i => hasv (gl A i) x) i), (0, (i : Int)), a4, a5, a6] [] c (mH h w) (mv_Ms h v0 (clv A x) c) := by
  intro m
  induction m with
  | zero =>
    intro i w a4 a5 a6 ⟨hi, hw⟩
    have b1 := hI.1
    have ew : w 266 = v0 266 := hw 266 (by omega) (by omega) (by omega)
    have r0w : w 266 0 = gn A := by { rw [ew]; exact hR.1 }
    have hK : (mv_m 176).1 = kc_Mod_withValue := rfl
    refine e_step (pc' := 31) hK rfl rfl rfl ?_
    refine e_step (pc' := 32) hK rfl rfl rfl ?_
    refine e_getR (ci := 4) (k := 3) (pc' := 35) hK rfl (by simp (disch := omega) only [mH_t64, mH_r1, mH_r3, mH_r4, mH_r5, mH_r6, mH_r8, mH_r9, mH_r10, mH_r11, mH_r12, mH_r14, mH_i0, mH_i2, mH_i7, mH_i13, mH_i15, mH_t71, mH_t, mH_lr, mH_l65, mH_l69, mH_l70, mH_l71, mH_l72, mH_l73, mH_l74, mH_l75, mH_c, r0w]) rfl rfl (by decide) (by decide) (by (try simp (disch := omega) only [mH_t64, mH_r1, mH_r3, mH_r4, mH_r5, mH_r6, mH_r8, mH_r9, mH_r10, mH_r11, mH_r12, mH_r14, mH_i0, mH_i2, mH_i7, mH_i13, mH_i15, mH_t71, mH_t, mH_lr, mH_l65, mH_l69, mH_l70, mH_l71, mH_l72, mH_l73, mH_l74, mH_l75, mH_c, r0w]); omega) rfl ?_
    try simp (disch := omega) only [mH_t64, mH_r1, mH_r3, mH_r4, mH_r5, mH_r6, mH_r8, mH_r9, mH_r10, mH_r11, mH_r12, mH_r14, mH_i0, mH_i2, mH_i7, mH_i13, mH_i15, mH_t71, mH_t, mH_lr, mH_l65, mH_l69, mH_l70, mH_l71, mH_l72, mH_l73, mH_l74, mH_l75, mH_c, r0w]
    refine e_step (pc' := 36) hK rfl rfl rfl ?_
    refine e_iald (pc' := 37) hK rfl (by simp (disch := omega) only [mH_t64, mH_r1, mH_r3, mH_r4, mH_r5, mH_r6, mH_r8, mH_r9, mH_r10, mH_r11, mH_r12, mH_r14, mH_i0, mH_i2, mH_i7, mH_i13, mH_i15, mH_t71, mH_t, mH_lr, mH_l65, mH_l69, mH_l70, mH_l71, mH_l72, mH_l73, mH_l74, mH_l75, mH_c, r0w]) (by omega) (by (try simp (disch := omega) only [mH_t64, mH_r1, mH_r3, mH_r4, mH_r5, mH_r6, mH_r8, mH_r9, mH_r10, mH_r11, mH_r12, mH_r14, mH_i0, mH_i2, mH_i7, mH_i13, mH_i15, mH_t71, mH_t, mH_lr, mH_l65, mH_l69, mH_l70, mH_l71, mH_l72, mH_l73, mH_l74, mH_l75, mH_c, r0w]); omega) rfl ?_
    try simp (disch := omega) only [mH_t64, mH_r1, mH_r3, mH_r4, mH_r5, mH_r6, mH_r8, mH_r9, mH_r10, mH_r11, mH_r12, mH_r14, mH_i0, mH_i2, mH_i7, mH_i13, mH_i15, mH_t71, mH_t, mH_lr, mH_l65, mH_l69, mH_l70, mH_l71, mH_l72, mH_l73, mH_l74, mH_l75, mH_c, r0w]
    refine e_icmp (t := 127) (pc' := 40) hK rfl (by omega) (by omega) (by decide) rfl (fun hb37 => ?_) (fun hb37 => ?_)
    · replace hb37 := cq_ge.1.mp hb37
      refine e_step (pc' := 128) hK rfl rfl rfl ?_
      refine e_ret hK rfl rfl rfl ?_
      exact ⟨by rw [show i = gn A from by omega]; rfl, rfl, w, rfl, hw⟩
    · replace hb37 := cq_ge.2.mp hb37
      exfalso; first | omega | exact absurd trivial (by assumption)
  | succ m ih =>
    intro i w a4 a5 a6 ⟨hi, hw⟩
    have b1 := hI.1
    have ew : w 266 = v0 266 := hw 266 (by omega) (by omega) (by omega)
    have r0w : w 266 0 = gn A := by { rw [ew]; exact hR.1 }
    have hK : (mv_m 176).1 = kc_Mod_withValue := rfl
    refine e_step (pc' := 31) hK rfl rfl rfl ?_
    refine e_step (pc' := 32) hK rfl rfl rfl ?_
    refine e_getR (ci := 4) (k := 3) (pc' := 35) hK rfl (by simp (disch := omega) only [mH_t64, mH_r1, mH_r3, mH_r4, mH_r5, mH_r6, mH_r8, mH_r9, mH_r10, mH_r11, mH_r12, mH_r14, mH_i0, mH_i2, mH_i7, mH_i13, mH_i15, mH_t71, mH_t, mH_lr, mH_l65, mH_l69, mH_l70, mH_l71, mH_l72, mH_l73, mH_l74, mH_l75, mH_c, r0w]) rfl rfl (by decide) (by decide) (by (try simp (disch := omega) only [mH_t64, mH_r1, mH_r3, mH_r4, mH_r5, mH_r6, mH_r8, mH_r9, mH_r10, mH_r11, mH_r12, mH_r14, mH_i0, mH_i2, mH_i7, mH_i13, mH_i15, mH_t71, mH_t, mH_lr, mH_l65, mH_l69, mH_l70, mH_l71, mH_l72, mH_l73, mH_l74, mH_l75, mH_c, r0w]); omega) rfl ?_
    try simp (disch := omega) only [mH_t64, mH_r1, mH_r3, mH_r4, mH_r5, mH_r6, mH_r8, mH_r9, mH_r10, mH_r11, mH_r12, mH_r14, mH_i0, mH_i2, mH_i7, mH_i13, mH_i15, mH_t71, mH_t, mH_lr, mH_l65, mH_l69, mH_l70, mH_l71, mH_l72, mH_l73, mH_l74, mH_l75, mH_c, r0w]
    refine e_step (pc' := 36) hK rfl rfl rfl ?_
    refine e_iald (pc' := 37) hK rfl (by simp (disch := omega) only [mH_t64, mH_r1, mH_r3, mH_r4, mH_r5, mH_r6, mH_r8, mH_r9, mH_r10, mH_r11, mH_r12, mH_r14, mH_i0, mH_i2, mH_i7, mH_i13, mH_i15, mH_t71, mH_t, mH_lr, mH_l65, mH_l69, mH_l70, mH_l71, mH_l72, mH_l73, mH_l74, mH_l75, mH_c, r0w]) (by omega) (by (try simp (disch := omega) only [mH_t64, mH_r1, mH_r3, mH_r4, mH_r5, mH_r6, mH_r8, mH_r9, mH_r10, mH_r11, mH_r12, mH_r14, mH_i0, mH_i2, mH_i7, mH_i13, mH_i15, mH_t71, mH_t, mH_lr, mH_l65, mH_l69, mH_l70, mH_l71, mH_l72, mH_l73, mH_l74, mH_l75, mH_c, r0w]); omega) rfl ?_
    try simp (disch := omega) only [mH_t64, mH_r1, mH_r3, mH_r4, mH_r5, mH_r6, mH_r8, mH_r9, mH_r10, mH_r11, mH_r12, mH_r14, mH_i0, mH_i2, mH_i7, mH_i13, mH_i15, mH_t71, mH_t, mH_lr, mH_l65, mH_l69, mH_l70, mH_l71, mH_l72, mH_l73, mH_l74, mH_l75, mH_c, r0w]
    refine e_icmp (t := 127) (pc' := 40) hK rfl (by omega) (by omega) (by decide) rfl (fun hb37 => ?_) (fun hb37 => ?_)
    · replace hb37 := cq_ge.1.mp hb37
      exfalso; first | omega | exact absurd trivial (by assumption)
    · replace hb37 := cq_ge.2.mp hb37
      refine e_step (pc' := 41) hK rfl rfl rfl ?_
      refine e_step (pc' := 42) hK rfl rfl rfl ?_
      refine e_getR (ci := 4) (k := 3) (pc' := 45) hK rfl (by simp (disch := omega) only [mH_t64, mH_r1, mH_r3, mH_r4, mH_r5, mH_r6, mH_r8, mH_r9, mH_r10, mH_r11, mH_r12, mH_r14, mH_i0, mH_i2, mH_i7, mH_i13, mH_i15, mH_t71, mH_t, mH_lr, mH_l65, mH_l69, mH_l70, mH_l71, mH_l72, mH_l73, mH_l74, mH_l75, mH_c, r0w]) rfl rfl (by decide) (by decide) (by (try simp (disch := omega) only [mH_t64, mH_r1, mH_r3, mH_r4, mH_r5, mH_r6, mH_r8, mH_r9, mH_r10, mH_r11, mH_r12, mH_r14, mH_i0, mH_i2, mH_i7, mH_i13, mH_i15, mH_t71, mH_t, mH_lr, mH_l65, mH_l69, mH_l70, mH_l71, mH_l72, mH_l73, mH_l74, mH_l75, mH_c, r0w]); omega) rfl ?_
      try simp (disch := omega) only [mH_t64, mH_r1, mH_r3, mH_r4, mH_r5, mH_r6, mH_r8, mH_r9, mH_r10, mH_r11, mH_r12, mH_r14, mH_i0, mH_i2, mH_i7, mH_i13, mH_i15, mH_t71, mH_t, mH_lr, mH_l65, mH_l69, mH_l70, mH_l71, mH_l72, mH_l73, mH_l74, mH_l75, mH_c, r0w]
      refine e_step (pc' := 46) hK rfl rfl rfl ?_
      refine e_step (pc' := 47) hK rfl rfl rfl ?_
      refine e_cQV4 (z := 123) hK rfl rfl (by first | (simp (disch := omega) only [mH_t64, mH_r1, mH_r3, mH_r4, mH_r5, mH_r6, mH_r8, mH_r9, mH_r10, mH_r11, mH_r12, mH_r14, mH_i0, mH_i2, mH_i7, mH_i13, mH_i15, mH_t71, mH_t, mH_lr, mH_l65, mH_l69, mH_l70, mH_l71, mH_l72, mH_l73, mH_l74, mH_l75, mH_c, r0w]; rfl) | (show _ = 2; assumption) | (show _ = 1; assumption) | (show _ = 0; assumption) | (show _ = 3; assumption) | (show _ = 4; assumption)) rfl (Nat.le_of_ble_eq_true rfl) (Nat.le_of_ble_eq_true rfl) (m_cut 266 (by omega) (i : Int) 0 ⟨by omega, by omega⟩ (Or.inl rfl) (gLok hI (show (0 : Int) ≤ i by omega) (by omega)) (by rw [ew]; exact (hR.2.2.1 i (by omega) (by omega)).1)) ?_
      rintro _ _ _ ⟨rfl, rfl, u, rfl, hu, ku⟩
      refine ⟨by show (0 : Nat) ≠ 4; decide, ?_⟩
      rw [if_neg (by show ¬ (0 : Nat) = 3; decide)]
      try dsimp only
      have eu : u 266 = v0 266 := (hu.1 266 (by omega) (by omega) (by omega)).trans ew
      show mv_Ev _ _ 50 _ _ _ _ _
      refine e_step (pc' := 52) hK rfl rfl rfl ?_
      try simp only [List.set_cons_zero, List.set_cons_succ]
      refine e_step (pc' := 53) hK rfl rfl rfl ?_
      refine e_step (pc' := 55) hK rfl rfl rfl ?_
      try simp only [List.set_cons_zero, List.set_cons_succ]
      refine e_step (pc' := 56) hK rfl rfl rfl ?_
      refine e_step (pc' := 58) hK rfl rfl rfl ?_
      try simp only [List.set_cons_zero, List.set_cons_succ]
      refine g_wvI hR hI x hx i (by omega) u (ms_t hw hu.1) (fun r p0 p1 => by { rw [eu]; exact Pc_of (o := 0) ku (hR.2.2.1 i (by omega) (by omega)).1 ⟨by omega, by omega⟩ (gLok hI (show (0 : Int) ≤ i by omega) (by omega)) (Or.inl rfl) p0 p1 (by omega) }) _ (fun b5 => ?_) (xn (gL A (i : Int))).toNat 0 false ⟨by omega, rfl⟩
      rw [← hasv_m hx.1, ← gl_L (A := A) (show (0 : Int) ≤ i by omega) (by omega)]
      refine e_step (pc' := 109) hK rfl rfl rfl ?_
      refine e_step (pc' := 111) hK rfl rfl rfl ?_
      refine e_if (t := 118) (pc' := 114) hK rfl (by first | omega | exact bo_i _) (by decide) rfl (fun hb111 => ?_) (fun hb111 => ?_)
      · replace hb111 := cq_eq.1.mp hb111
        try simp only [bo_0, Bool.not_eq_false] at hb111
        refine e_step (pc' := 119) hK rfl rfl rfl ?_
        refine e_step (pc' := 120) hK rfl rfl rfl ?_
        refine e_step (pc' := 121) hK rfl rfl rfl ?_
        try simp only [List.set_cons_zero, List.set_cons_succ]
        refine e_step (pc' := 124) hK rfl rfl rfl ?_
        try simp only [List.set_cons_zero, List.set_cons_succ]
        refine e_goto (t := 30) hK rfl (by decide) ?_
        rw [Int.add_zero, ← lc_f (q := fun i => hasv (gl A i) x) hb111]
        exact ih (i + 1) u _ _ _ ⟨by omega, ms_t hw hu.1⟩
      · replace hb111 := cq_eq.2.mp hb111
        try simp only [bo_0, Bool.not_eq_false] at hb111
        refine e_step (pc' := 115) hK rfl rfl rfl ?_
        refine e_goto (t := 119) hK rfl (by decide) ?_
        refine e_step (pc' := 120) hK rfl rfl rfl ?_
        refine e_step (pc' := 121) hK rfl rfl rfl ?_
        try simp only [List.set_cons_zero, List.set_cons_succ]
        refine e_step (pc' := 124) hK rfl rfl rfl ?_
        try simp only [List.set_cons_zero, List.set_cons_succ]
        refine e_goto (t := 30) hK rfl (by decide) ?_
        rw [← lc_t (q := fun i => hasv (gl A i) x) hb111]
        exact ih (i + 1) u _ _ _ ⟨by omega, ms_t hw hu.1⟩
set_option maxRecDepth 10000 in
theorem g_withv {W : wt} (hM : MdA v W) (x : Int) (hx : mv_i x) : mv_Cl sc q_Mod_withValue [(2, 264), (0, x)] c (mH h v) (fun r c' h' => r = (0, (sp_withv W x).2.1) ∧ c' = c ∧ ∃ w, h' = mH h w ∧ MdA w (sp_withv W x).2.2 ∧ w 264 0 = (sp_withv W x).1) := by
  have hM0 := hM
  obtain ⟨hTx, hR, ⟨hI, bn, bT⟩, hH, hz, hSv⟩ := hM
  have r0 := hR.1
  have r1 := hR.2.1
  show mv_Ev sc 176 0 [(2, 264), (0, x), (5, 0), (5, 0), (5, 0), (5, 0), (5, 0)] [] c (mH h v) _
  have hK : (mv_m 176).1 = kc_Mod_withValue := rfl
  refine e_step (pc' := 1) hK rfl rfl rfl ?_
  refine e_step (pc' := 2) hK rfl rfl rfl ?_
  refine e_i2l (pc' := 3) hK rfl (by first | omega | exact bo_i _) rfl ?_
  refine e_step (pc' := 4) hK rfl rfl rfl ?_
  show mv_Ev _ _ 4 _ ((1, (0 : Int)) :: _) _ _ _
  refine e_step (pc' := 7) hK rfl rfl rfl ?_
  refine e_cRS3 (z := 109) (pc' := 10) hK rfl rfl rfl (Nat.le_of_ble_eq_true rfl) (Nat.le_of_ble_eq_true rfl) (m_in x 0 999999 (by omega) (by omega) (by omega)) (by decide) rfl ?_
  try simp (disch := omega) only [mH_t64, mH_r1, mH_r3, mH_r4, mH_r5, mH_r6, mH_r8, mH_r9, mH_r10, mH_r11, mH_r12, mH_r14, mH_i0, mH_i2, mH_i7, mH_i13, mH_i15, mH_t71, mH_t, mH_lr, mH_l65, mH_l69, mH_l70, mH_l71, mH_l72, mH_l73, mH_l74, mH_l75, mH_c]
  refine e_if (t := 17) (pc' := 13) hK rfl (by first | omega | exact bo_i _) (by decide) rfl (fun hb10 => ?_) (fun hb10 => ?_)
  · replace hb10 := cq_eq.1.mp hb10
    try simp only [bo_0, Bool.not_eq_false] at hb10
    simp only [Bool.and_eq_false_iff, decide_eq_false_iff_not] at hb10
    refine e_step (pc' := 18) hK rfl rfl rfl ?_
    refine e_cQV2 (z := 110) hK rfl rfl (by first | (simp (disch := omega) only [mH_t64, mH_r1, mH_r3, mH_r4, mH_r5, mH_r6, mH_r8, mH_r9, mH_r10, mH_r11, mH_r12, mH_r14, mH_i0, mH_i2, mH_i7, mH_i13, mH_i15, mH_t71, mH_t, mH_lr, mH_l65, mH_l69, mH_l70, mH_l71, mH_l72, mH_l73, mH_l74, mH_l75, mH_c]; rfl) | (show _ = 2; assumption) | (show _ = 1; assumption) | (show _ = 0; assumption) | (show _ = 3; assumption) | (show _ = 4; assumption)) rfl (Nat.le_of_ble_eq_true rfl) (Nat.le_of_ble_eq_true rfl) (m_refP 1 (by omega)) ?_
    rintro _ _ _ ⟨rfl, rfl, rfl⟩
    refine ⟨by show (0 : Nat) ≠ 4; decide, ?_⟩
    rw [if_neg (by show ¬ (0 : Nat) = 3; decide)]
    try dsimp only
    have hM1 := hM0.rf 1
    obtain ⟨v1, hv1⟩ : ∃ v1, v1 = gu v 264 (mv_up (v 264) 0 1) := ⟨_, rfl⟩
    rw [← hv1] at hM1 ⊢
    have z1 : v1 264 0 = 1 := by { rw [hv1, gu_s, up_s] }
    have eo1 : ∀ b : Int, b ≠ 264 → v1 b = v b := fun b hb => by { rw [hv1]; exact gu_n hb }
    have ef1 : ∀ k : Int, k ≠ 0 → v1 264 k = v 264 k := fun k hk => by { rw [hv1, gu_s, up_n hk] }
    have hR1 := hM1.2.1
    have ra1 := hR1.1
    have rb1 := hR1.2.1
    clear hv1
    show mv_Ev _ _ 21 _ _ _ _ _
    refine e_if (t := 26) (pc' := 24) hK rfl (by first | omega | exact bo_i _) (by decide) rfl (fun hb21 => ?_) (fun hb21 => ?_)
    · replace hb21 := cq_eq.1.mp hb21
      try simp only [bo_0, Bool.not_eq_false] at hb21
      exfalso; first | omega | exact absurd trivial (by assumption) | (first | omega | exact bo_i _)
    · replace hb21 := cq_eq.2.mp hb21
      try simp only [bo_0, Bool.not_eq_false] at hb21
      refine e_step (pc' := 25) hK rfl rfl rfl ?_
      refine e_ret hK rfl rfl rfl ?_
      have e9 : sp_withv W x = (1, 0, W) := by { unfold sp_withv; (repeat (first | rw [if_pos (by omega)] | rw [if_neg (by omega)])) }
      rw [e9]
      exact ⟨rfl, rfl, v1, rfl, hM1, z1⟩
  · replace hb10 := cq_eq.2.mp hb10
    try simp only [bo_0, Bool.not_eq_false] at hb10
    simp only [Bool.and_eq_true, decide_eq_true_eq] at hb10
    refine e_step (pc' := 14) hK rfl rfl rfl ?_
    refine e_goto (t := 18) hK rfl (by decide) ?_
    refine e_cQV2 (z := 110) hK rfl rfl (by first | (simp (disch := omega) only [mH_t64, mH_r1, mH_r3, mH_r4, mH_r5, mH_r6, mH_r8, mH_r9, mH_r10, mH_r11, mH_r12, mH_r14, mH_i0, mH_i2, mH_i7, mH_i13, mH_i15, mH_t71, mH_t, mH_lr, mH_l65, mH_l69, mH_l70, mH_l71, mH_l72, mH_l73, mH_l74, mH_l75, mH_c]; rfl) | (show _ = 2; assumption) | (show _ = 1; assumption) | (show _ = 0; assumption) | (show _ = 3; assumption) | (show _ = 4; assumption)) rfl (Nat.le_of_ble_eq_true rfl) (Nat.le_of_ble_eq_true rfl) (m_ref0) ?_
    rintro _ _ _ ⟨rfl, rfl, rfl⟩
    refine ⟨by show (0 : Nat) ≠ 4; decide, ?_⟩
    rw [if_neg (by show ¬ (0 : Nat) = 3; decide)]
    try dsimp only
    have hM1 := hM0.rf 0
    obtain ⟨v1, hv1⟩ : ∃ v1, v1 = gu v 264 (mv_up (v 264) 0 0) := ⟨_, rfl⟩
    rw [← hv1] at hM1 ⊢
    have z1 : v1 264 0 = 0 := by { rw [hv1, gu_s, up_s] }
    have eo1 : ∀ b : Int, b ≠ 264 → v1 b = v b := fun b hb => by { rw [hv1]; exact gu_n hb }
    have ef1 : ∀ k : Int, k ≠ 0 → v1 264 k = v 264 k := fun k hk => by { rw [hv1, gu_s, up_n hk] }
    have hR1 := hM1.2.1
    have ra1 := hR1.1
    have rb1 := hR1.2.1
    clear hv1
    show mv_Ev _ _ 21 _ _ _ _ _
    refine e_if (t := 26) (pc' := 24) hK rfl (by first | omega | exact bo_i _) (by decide) rfl (fun hb21 => ?_) (fun hb21 => ?_)
    · replace hb21 := cq_eq.1.mp hb21
      try simp only [bo_0, Bool.not_eq_false] at hb21
      refine e_step (pc' := 27) hK rfl rfl rfl ?_
      refine e_step (pc' := 28) hK rfl rfl rfl ?_
      try simp only [List.set_cons_zero, List.set_cons_succ]
      refine e_step (pc' := 29) hK rfl rfl rfl ?_
      refine e_step (pc' := 30) hK rfl rfl rfl ?_
      try simp only [List.set_cons_zero, List.set_cons_succ]
      refine (g_wvO hR1 hI x ⟨by omega, by omega⟩ (gn (wA W)) 0 v1 _ _ _ ⟨by omega, ms_r v1⟩).mono (fun r c' h' hq => ?_)
      obtain ⟨rfl, rfl, w, rfl, hw⟩ := hq
      have e9 : sp_withv W x = (0, clv (wA W) x, W) := by { unfold sp_withv; (repeat (first | rw [if_pos (by omega)] | rw [if_neg (by omega)])) }
      rw [e9]
      exact ⟨rfl, rfl, w, rfl, hM1.ms hw, (congrFun (hw 264 (by omega) (by omega) (by omega)) 0).trans z1⟩
    · replace hb21 := cq_eq.2.mp hb21
      try simp only [bo_0, Bool.not_eq_false] at hb21
      exfalso; first | omega | exact absurd trivial (by assumption) | (first | omega | exact bo_i _)
set_option maxRecDepth 10000 in
theorem g_append {W : wt} (hM : MdA v W) (x : Int) (hx : mv_i x) : mv_Cl sc q_Mod_append [(2, 264), (0, x)] c (mH h v) (fun r c' h' => r = (0, (sp_append W x).2.1) ∧ c' = c ∧ ∃ w, h' = mH h w ∧ MdA w (sp_append W x).2.2 ∧ w 264 0 = (sp_append W x).1) := by
  have hM0 := hM
  obtain ⟨hTx, hR, ⟨hI, bn, bT⟩, hH, hz, hSv⟩ := hM
  have r0 := hR.1
  have r1 := hR.2.1
  have z2 := hTx.1
  have hN := hTx.2.1
  show mv_Ev sc 108 0 [(2, 264), (0, x)] [] c (mH h v) _
  have hK : (mv_m 108).1 = kc_Mod_append := rfl
  refine e_step (pc' := 1) hK rfl rfl rfl ?_
  refine e_step (pc' := 2) hK rfl rfl rfl ?_
  refine e_i2l (pc' := 3) hK rfl (by first | omega | exact bo_i _) rfl ?_
  refine e_step (pc' := 4) hK rfl rfl rfl ?_
  show mv_Ev _ _ 4 _ ((1, (0 : Int)) :: _) _ _ _
  refine e_step (pc' := 7) hK rfl rfl rfl ?_
  refine e_cRS3 (z := 109) (pc' := 10) hK rfl rfl rfl (Nat.le_of_ble_eq_true rfl) (Nat.le_of_ble_eq_true rfl) (m_in x 0 255 (by omega) (by omega) (by omega)) (by decide) rfl ?_
  try simp (disch := omega) only [mH_t64, mH_r1, mH_r3, mH_r4, mH_r5, mH_r6, mH_r8, mH_r9, mH_r10, mH_r11, mH_r12, mH_r14, mH_i0, mH_i2, mH_i7, mH_i13, mH_i15, mH_t71, mH_t, mH_lr, mH_l65, mH_l69, mH_l70, mH_l71, mH_l72, mH_l73, mH_l74, mH_l75, mH_c, z2]
  refine e_if (t := 17) (pc' := 13) hK rfl (by first | omega | exact bo_i _) (by decide) rfl (fun hb10 => ?_) (fun hb10 => ?_)
  · replace hb10 := cq_ne.1.mp hb10
    try simp only [bo_0, Bool.not_eq_false] at hb10
    simp only [Bool.and_eq_true, decide_eq_true_eq] at hb10
    refine e_step (pc' := 18) hK rfl rfl rfl ?_
    refine e_getI (ci := 4) (k := 2) (pc' := 21) hK rfl (by simp (disch := omega) only [mH_t64, mH_r1, mH_r3, mH_r4, mH_r5, mH_r6, mH_r8, mH_r9, mH_r10, mH_r11, mH_r12, mH_r14, mH_i0, mH_i2, mH_i7, mH_i13, mH_i15, mH_t71, mH_t, mH_lr, mH_l65, mH_l69, mH_l70, mH_l71, mH_l72, mH_l73, mH_l74, mH_l75, mH_c, z2]) rfl rfl (by decide) (by decide) rfl ?_
    try simp (disch := omega) only [mH_t64, mH_r1, mH_r3, mH_r4, mH_r5, mH_r6, mH_r8, mH_r9, mH_r10, mH_r11, mH_r12, mH_r14, mH_i0, mH_i2, mH_i7, mH_i13, mH_i15, mH_t71, mH_t, mH_lr, mH_l65, mH_l69, mH_l70, mH_l71, mH_l72, mH_l73, mH_l74, mH_l75, mH_c, z2]
    refine e_step (pc' := 23) hK rfl rfl rfl ?_
    refine e_icmp (t := 30) (pc' := 26) hK rfl (by first | omega | exact bo_i _) (by first | omega | exact bo_i _) (by decide) rfl (fun hb23 => ?_) (fun hb23 => ?_)
    · replace hb23 := cq_ne.1.mp hb23
      try simp only [bo_0, Bool.not_eq_false] at hb23
      refine e_step (pc' := 31) hK rfl rfl rfl ?_
      refine e_cQV2 (z := 110) hK rfl rfl (by first | (simp (disch := omega) only [mH_t64, mH_r1, mH_r3, mH_r4, mH_r5, mH_r6, mH_r8, mH_r9, mH_r10, mH_r11, mH_r12, mH_r14, mH_i0, mH_i2, mH_i7, mH_i13, mH_i15, mH_t71, mH_t, mH_lr, mH_l65, mH_l69, mH_l70, mH_l71, mH_l72, mH_l73, mH_l74, mH_l75, mH_c, z2]; rfl) | (show _ = 2; assumption) | (show _ = 1; assumption) | (show _ = 0; assumption) | (show _ = 3; assumption) | (show _ = 4; assumption)) rfl (Nat.le_of_ble_eq_true rfl) (Nat.le_of_ble_eq_true rfl) (m_ref0) ?_
      rintro _ _ _ ⟨rfl, rfl, rfl⟩
      refine ⟨by show (0 : Nat) ≠ 4; decide, ?_⟩
      rw [if_neg (by show ¬ (0 : Nat) = 3; decide)]
      try dsimp only
      have hM1 := hM0.rf 0
      obtain ⟨v1, hv1⟩ : ∃ v1, v1 = gu v 264 (mv_up (v 264) 0 0) := ⟨_, rfl⟩
      rw [← hv1] at hM1 ⊢
      have z1 : v1 264 0 = 0 := by { rw [hv1, gu_s, up_s] }
      have eo1 : ∀ b : Int, b ≠ 264 → v1 b = v b := fun b hb => by { rw [hv1]; exact gu_n hb }
      have ef1 : ∀ k : Int, k ≠ 0 → v1 264 k = v 264 k := fun k hk => by { rw [hv1, gu_s, up_n hk] }
      have hR1 := hM1.2.1
      have ra1 := hR1.1
      have rb1 := hR1.2.1
      clear hv1
      show mv_Ev _ _ 34 _ _ _ _ _
      refine e_if (t := 39) (pc' := 37) hK rfl (by first | omega | exact bo_i _) (by decide) rfl (fun hb34 => ?_) (fun hb34 => ?_)
      · replace hb34 := cq_eq.1.mp hb34
        try simp only [bo_0, Bool.not_eq_false] at hb34
        have z21 : v1 264 2 = wN W := (ef1 2 (by omega)).trans z2
        have e651 : v1 265 = v 265 := eo1 265 (by omega)
        refine e_step (pc' := 40) hK rfl rfl rfl ?_
        refine e_getR (ci := 4) (k := 1) (pc' := 43) hK rfl (by simp (disch := omega) only [mH_t64, mH_r1, mH_r3, mH_r4, mH_r5, mH_r6, mH_r8, mH_r9, mH_r10, mH_r11, mH_r12, mH_r14, mH_i0, mH_i2, mH_i7, mH_i13, mH_i15, mH_t71, mH_t, mH_lr, mH_l65, mH_l69, mH_l70, mH_l71, mH_l72, mH_l73, mH_l74, mH_l75, mH_c, z2, ra1, rb1, z21]) rfl rfl (by decide) (by decide) (by (try simp (disch := omega) only [mH_t64, mH_r1, mH_r3, mH_r4, mH_r5, mH_r6, mH_r8, mH_r9, mH_r10, mH_r11, mH_r12, mH_r14, mH_i0, mH_i2, mH_i7, mH_i13, mH_i15, mH_t71, mH_t, mH_lr, mH_l65, mH_l69, mH_l70, mH_l71, mH_l72, mH_l73, mH_l74, mH_l75, mH_c, z2, ra1, rb1, z21]); first | omega | exact bo_i _) rfl ?_
        try simp (disch := omega) only [mH_t64, mH_r1, mH_r3, mH_r4, mH_r5, mH_r6, mH_r8, mH_r9, mH_r10, mH_r11, mH_r12, mH_r14, mH_i0, mH_i2, mH_i7, mH_i13, mH_i15, mH_t71, mH_t, mH_lr, mH_l65, mH_l69, mH_l70, mH_l71, mH_l72, mH_l73, mH_l74, mH_l75, mH_c, z2, ra1, rb1, z21]
        refine e_step (pc' := 44) hK rfl rfl rfl ?_
        refine e_getI (ci := 4) (k := 2) (pc' := 47) hK rfl (by simp (disch := omega) only [mH_t64, mH_r1, mH_r3, mH_r4, mH_r5, mH_r6, mH_r8, mH_r9, mH_r10, mH_r11, mH_r12, mH_r14, mH_i0, mH_i2, mH_i7, mH_i13, mH_i15, mH_t71, mH_t, mH_lr, mH_l65, mH_l69, mH_l70, mH_l71, mH_l72, mH_l73, mH_l74, mH_l75, mH_c, z2, ra1, rb1, z21]) rfl rfl (by decide) (by decide) rfl ?_
        try simp (disch := omega) only [mH_t64, mH_r1, mH_r3, mH_r4, mH_r5, mH_r6, mH_r8, mH_r9, mH_r10, mH_r11, mH_r12, mH_r14, mH_i0, mH_i2, mH_i7, mH_i13, mH_i15, mH_t71, mH_t, mH_lr, mH_l65, mH_l69, mH_l70, mH_l71, mH_l72, mH_l73, mH_l74, mH_l75, mH_c, z2, ra1, rb1, z21]
        refine e_step (pc' := 48) hK rfl rfl rfl ?_
        refine e_iast (pc' := 49) hK rfl (by simp (disch := omega) only [mH_t64, mH_r1, mH_r3, mH_r4, mH_r5, mH_r6, mH_r8, mH_r9, mH_r10, mH_r11, mH_r12, mH_r14, mH_i0, mH_i2, mH_i7, mH_i13, mH_i15, mH_t71, mH_t, mH_lr, mH_l65, mH_l69, mH_l70, mH_l71, mH_l72, mH_l73, mH_l74, mH_l75, mH_c, z2, ra1, rb1, z21]) (by first | omega | exact bo_i _) (by (try simp (disch := omega) only [mH_t64, mH_r1, mH_r3, mH_r4, mH_r5, mH_r6, mH_r8, mH_r9, mH_r10, mH_r11, mH_r12, mH_r14, mH_i0, mH_i2, mH_i7, mH_i13, mH_i15, mH_t71, mH_t, mH_lr, mH_l65, mH_l69, mH_l70, mH_l71, mH_l72, mH_l73, mH_l74, mH_l75, mH_c, z2, ra1, rb1, z21]); first | omega | exact bo_i _) rfl ?_
        simp (disch := omega) only [mW_0, mW_2, mW_7, mW_13, mW_15, mW_a, gu_s, gu_n, up_s]
        refine e_step (pc' := 50) hK rfl rfl rfl ?_
        refine e_step (pc' := 51) hK rfl rfl rfl ?_
        refine e_getI (ci := 4) (k := 2) (pc' := 54) hK rfl (by simp (disch := omega) only [mH_t64, mH_r1, mH_r3, mH_r4, mH_r5, mH_r6, mH_r8, mH_r9, mH_r10, mH_r11, mH_r12, mH_r14, mH_i0, mH_i2, mH_i7, mH_i13, mH_i15, mH_t71, mH_t, mH_lr, mH_l65, mH_l69, mH_l70, mH_l71, mH_l72, mH_l73, mH_l74, mH_l75, mH_c, z2, ra1, rb1, z21]) rfl rfl (by decide) (by decide) rfl ?_
        try simp (disch := omega) only [mH_t64, mH_r1, mH_r3, mH_r4, mH_r5, mH_r6, mH_r8, mH_r9, mH_r10, mH_r11, mH_r12, mH_r14, mH_i0, mH_i2, mH_i7, mH_i13, mH_i15, mH_t71, mH_t, mH_lr, mH_l65, mH_l69, mH_l70, mH_l71, mH_l72, mH_l73, mH_l74, mH_l75, mH_c, z2, ra1, rb1, z21]
        refine e_step (pc' := 55) hK rfl rfl rfl ?_
        refine e_step (pc' := 56) hK rfl rfl rfl ?_
        refine e_put (ci := 4) (k := 2) (pc' := 59) hK rfl (by simp (disch := omega) only [mH_t64, mH_r1, mH_r3, mH_r4, mH_r5, mH_r6, mH_r8, mH_r9, mH_r10, mH_r11, mH_r12, mH_r14, mH_i0, mH_i2, mH_i7, mH_i13, mH_i15, mH_t71, mH_t, mH_lr, mH_l65, mH_l69, mH_l70, mH_l71, mH_l72, mH_l73, mH_l74, mH_l75, mH_c, z2, ra1, rb1, z21]) rfl rfl (by decide) rfl rfl ?_
        simp (disch := omega) only [mW_0, mW_2, mW_7, mW_13, mW_15, mW_a, gu_s, gu_n, up_s]
        refine e_step (pc' := 60) hK rfl rfl rfl ?_
        refine e_getI (ci := 4) (k := 2) (pc' := 63) hK rfl (by simp (disch := omega) only [mH_t64, mH_r1, mH_r3, mH_r4, mH_r5, mH_r6, mH_r8, mH_r9, mH_r10, mH_r11, mH_r12, mH_r14, mH_i0, mH_i2, mH_i7, mH_i13, mH_i15, mH_t71, mH_t, mH_lr, mH_l65, mH_l69, mH_l70, mH_l71, mH_l72, mH_l73, mH_l74, mH_l75, mH_c, z2, ra1, rb1, z21]) rfl rfl (by decide) (by decide) rfl ?_
        try simp (disch := omega) only [mH_t64, mH_r1, mH_r3, mH_r4, mH_r5, mH_r6, mH_r8, mH_r9, mH_r10, mH_r11, mH_r12, mH_r14, mH_i0, mH_i2, mH_i7, mH_i13, mH_i15, mH_t71, mH_t, mH_lr, mH_l65, mH_l69, mH_l70, mH_l71, mH_l72, mH_l73, mH_l74, mH_l75, mH_c, z2, ra1, rb1, z21]
        refine e_ret hK rfl rfl rfl ?_
        have e9 : sp_append W x = (0, (wN W : Int) + 1, (wN W + 1, mv_up (wF W) (wN W) x, W.2.2)) := by { unfold sp_append; rw [if_pos (by omega), if_neg (by omega)] }
        rw [e9]
        refine ⟨by first | rfl | simp (disch := omega) only [gu_s, gu_n, up_s, up_n, z21], rfl, _, rfl, ⟨⟨?_, ?_, fun k k0 k1 => ?_, fun k k0 k1 => ?_⟩, ?_, hM1.2.2.1, ⟨hM1.2.2.2.1.1, ?_, fun j j0 j1 => ?_⟩, hM1.2.2.2.2.1, fun s hs => ?_⟩, ?_⟩
        · simp (disch := omega) only [gu_s, gu_n, up_s, up_n, z21]; rfl
        · show wN W + 1 ≤ 50; omega
        · have k1 : k < (wN W : Int) + 1 := k1
          show _ = mv_up (wF W) (wN W) x k
          by_cases e : k = wN W
          · rw [e]; simp (disch := omega) only [gu_s, gu_n, up_s, up_n]
          · simp (disch := omega) only [gu_s, gu_n, up_s, up_n]; rw [e651]; exact hTx.2.2.1 k k0 (by omega)
        · have k1 : k < (wN W : Int) + 1 := k1
          show 0 ≤ mv_up (wF W) (wN W) x k ∧ mv_up (wF W) (wN W) x k ≤ 255
          by_cases e : k = wN W
          · rw [e, up_s]; omega
          · rw [up_n e]; exact hTx.2.2.2 k k0 (by omega)
        · simp (disch := omega) only [gu_n]; exact hR1
        · simp (disch := omega) only [gu_s, gu_n, up_n]; exact hM1.2.2.2.1.2.1
        · obtain ⟨g1, g2⟩ := hM1.2.2.2.1.2.2 j j0 j1
          exact ⟨g1, by { simp (disch := omega) only [gu_n]; exact g2 }⟩
        · simp (disch := omega) only [gu_n]; exact hM1.2.2.2.2.2 s hs
        · simp (disch := omega) only [gu_s, gu_n, up_n]; exact z1
      · replace hb34 := cq_eq.2.mp hb34
        try simp only [bo_0, Bool.not_eq_false] at hb34
        exfalso; first | omega | exact absurd trivial (by assumption) | (first | omega | exact bo_i _)
    · replace hb23 := cq_ne.2.mp hb23
      try simp only [bo_0, Bool.not_eq_false] at hb23
      refine e_step (pc' := 27) hK rfl rfl rfl ?_
      refine e_goto (t := 31) hK rfl (by decide) ?_
      refine e_cQV2 (z := 110) hK rfl rfl (by first | (simp (disch := omega) only [mH_t64, mH_r1, mH_r3, mH_r4, mH_r5, mH_r6, mH_r8, mH_r9, mH_r10, mH_r11, mH_r12, mH_r14, mH_i0, mH_i2, mH_i7, mH_i13, mH_i15, mH_t71, mH_t, mH_lr, mH_l65, mH_l69, mH_l70, mH_l71, mH_l72, mH_l73, mH_l74, mH_l75, mH_c, z2]; rfl) | (show _ = 2; assumption) | (show _ = 1; assumption) | (show _ = 0; assumption) | (show _ = 3; assumption) | (show _ = 4; assumption)) rfl (Nat.le_of_ble_eq_true rfl) (Nat.le_of_ble_eq_true rfl) (m_refP 2 (by omega)) ?_
      rintro _ _ _ ⟨rfl, rfl, rfl⟩
      refine ⟨by show (0 : Nat) ≠ 4; decide, ?_⟩
      rw [if_neg (by show ¬ (0 : Nat) = 3; decide)]
      try dsimp only
      have hM1 := hM0.rf 2
      obtain ⟨v1, hv1⟩ : ∃ v1, v1 = gu v 264 (mv_up (v 264) 0 2) := ⟨_, rfl⟩
      rw [← hv1] at hM1 ⊢
      have z1 : v1 264 0 = 2 := by { rw [hv1, gu_s, up_s] }
      have eo1 : ∀ b : Int, b ≠ 264 → v1 b = v b := fun b hb => by { rw [hv1]; exact gu_n hb }
      have ef1 : ∀ k : Int, k ≠ 0 → v1 264 k = v 264 k := fun k hk => by { rw [hv1, gu_s, up_n hk] }
      have hR1 := hM1.2.1
      have ra1 := hR1.1
      have rb1 := hR1.2.1
      clear hv1
      show mv_Ev _ _ 34 _ _ _ _ _
      refine e_if (t := 39) (pc' := 37) hK rfl (by first | omega | exact bo_i _) (by decide) rfl (fun hb34 => ?_) (fun hb34 => ?_)
      · replace hb34 := cq_eq.1.mp hb34
        try simp only [bo_0, Bool.not_eq_false] at hb34
        exfalso; first | omega | exact absurd trivial (by assumption) | (first | omega | exact bo_i _)
      · replace hb34 := cq_eq.2.mp hb34
        try simp only [bo_0, Bool.not_eq_false] at hb34
        refine e_step (pc' := 38) hK rfl rfl rfl ?_
        refine e_ret hK rfl rfl rfl ?_
        have e9 : sp_append W x = (2, 0, W) := by { unfold sp_append; (repeat (first | rw [if_pos (by omega)] | rw [if_neg (by omega)])) }
        rw [e9]
        exact ⟨rfl, rfl, v1, rfl, hM1, z1⟩
  · replace hb10 := cq_ne.2.mp hb10
    try simp only [bo_0, Bool.not_eq_false] at hb10
    simp only [Bool.and_eq_false_iff, decide_eq_false_iff_not] at hb10
    refine e_step (pc' := 14) hK rfl rfl rfl ?_
    refine e_goto (t := 31) hK rfl (by decide) ?_
    refine e_cQV2 (z := 110) hK rfl rfl (by first | (simp (disch := omega) only [mH_t64, mH_r1, mH_r3, mH_r4, mH_r5, mH_r6, mH_r8, mH_r9, mH_r10, mH_r11, mH_r12, mH_r14, mH_i0, mH_i2, mH_i7, mH_i13, mH_i15, mH_t71, mH_t, mH_lr, mH_l65, mH_l69, mH_l70, mH_l71, mH_l72, mH_l73, mH_l74, mH_l75, mH_c, z2]; rfl) | (show _ = 2; assumption) | (show _ = 1; assumption) | (show _ = 0; assumption) | (show _ = 3; assumption) | (show _ = 4; assumption)) rfl (Nat.le_of_ble_eq_true rfl) (Nat.le_of_ble_eq_true rfl) (m_refP 1 (by omega)) ?_
    rintro _ _ _ ⟨rfl, rfl, rfl⟩
    refine ⟨by show (0 : Nat) ≠ 4; decide, ?_⟩
    rw [if_neg (by show ¬ (0 : Nat) = 3; decide)]
    try dsimp only
    have hM1 := hM0.rf 1
    obtain ⟨v1, hv1⟩ : ∃ v1, v1 = gu v 264 (mv_up (v 264) 0 1) := ⟨_, rfl⟩
    rw [← hv1] at hM1 ⊢
    have z1 : v1 264 0 = 1 := by { rw [hv1, gu_s, up_s] }
    have eo1 : ∀ b : Int, b ≠ 264 → v1 b = v b := fun b hb => by { rw [hv1]; exact gu_n hb }
    have ef1 : ∀ k : Int, k ≠ 0 → v1 264 k = v 264 k := fun k hk => by { rw [hv1, gu_s, up_n hk] }
    have hR1 := hM1.2.1
    have ra1 := hR1.1
    have rb1 := hR1.2.1
    clear hv1
    show mv_Ev _ _ 34 _ _ _ _ _
    refine e_if (t := 39) (pc' := 37) hK rfl (by first | omega | exact bo_i _) (by decide) rfl (fun hb34 => ?_) (fun hb34 => ?_)
    · replace hb34 := cq_eq.1.mp hb34
      try simp only [bo_0, Bool.not_eq_false] at hb34
      exfalso; first | omega | exact absurd trivial (by assumption) | (first | omega | exact bo_i _)
    · replace hb34 := cq_eq.2.mp hb34
      try simp only [bo_0, Bool.not_eq_false] at hb34
      refine e_step (pc' := 38) hK rfl rfl rfl ?_
      refine e_ret hK rfl rfl rfl ?_
      have e9 : sp_append W x = (1, 0, W) := by { unfold sp_append; (repeat (first | rw [if_pos (by omega)] | rw [if_neg (by omega)])) }
      rw [e9]
      exact ⟨rfl, rfl, v1, rfl, hM1, z1⟩
set_option maxRecDepth 10000 in
theorem g_clear {W : wt} (hM : MdA v W) : mv_Cl sc q_Mod_clearText [(2, 264)] c (mH h v) (fun r c' h' => r = (0, (sp_clear W).2.1) ∧ c' = c ∧ ∃ w, h' = mH h w ∧ MdA w (sp_clear W).2.2) := by
  have hM0 := hM
  obtain ⟨hTx, hR, ⟨hI, bn, bT⟩, hH, hz, hSv⟩ := hM
  have r0 := hR.1
  have r1 := hR.2.1
  have z2 := hTx.1
  show mv_Ev sc 111 0 [(2, 264), (5, 0)] [] c (mH h v) _
  have hK : (mv_m 111).1 = kc_Mod_clearText := rfl
  refine e_step (pc' := 1) hK rfl rfl rfl ?_
  refine e_getI (ci := 4) (k := 2) (pc' := 4) hK rfl (by simp (disch := omega) only [mH_t64, mH_r1, mH_r3, mH_r4, mH_r5, mH_r6, mH_r8, mH_r9, mH_r10, mH_r11, mH_r12, mH_r14, mH_i0, mH_i2, mH_i7, mH_i13, mH_i15, mH_t71, mH_t, mH_lr, mH_l65, mH_l69, mH_l70, mH_l71, mH_l72, mH_l73, mH_l74, mH_l75, mH_c, z2]) rfl rfl (by decide) (by decide) rfl ?_
  try simp (disch := omega) only [mH_t64, mH_r1, mH_r3, mH_r4, mH_r5, mH_r6, mH_r8, mH_r9, mH_r10, mH_r11, mH_r12, mH_r14, mH_i0, mH_i2, mH_i7, mH_i13, mH_i15, mH_t71, mH_t, mH_lr, mH_l65, mH_l69, mH_l70, mH_l71, mH_l72, mH_l73, mH_l74, mH_l75, mH_c, z2]
  refine e_step (pc' := 5) hK rfl rfl rfl ?_
  try simp only [List.set_cons_zero, List.set_cons_succ]
  refine e_step (pc' := 6) hK rfl rfl rfl ?_
  refine e_step (pc' := 7) hK rfl rfl rfl ?_
  refine e_put (ci := 4) (k := 2) (pc' := 10) hK rfl (by simp (disch := omega) only [mH_t64, mH_r1, mH_r3, mH_r4, mH_r5, mH_r6, mH_r8, mH_r9, mH_r10, mH_r11, mH_r12, mH_r14, mH_i0, mH_i2, mH_i7, mH_i13, mH_i15, mH_t71, mH_t, mH_lr, mH_l65, mH_l69, mH_l70, mH_l71, mH_l72, mH_l73, mH_l74, mH_l75, mH_c, z2]) rfl rfl (by decide) rfl rfl ?_
  simp (disch := omega) only [mW_0, mW_2, mW_7, mW_13, mW_15, mW_a, gu_s]
  refine e_step (pc' := 11) hK rfl rfl rfl ?_
  refine e_ret hK rfl rfl rfl ?_
  refine ⟨rfl, rfl, _, rfl, ⟨?_, ?_, fun k k0 k1 => ?_, fun k k0 k1 => ?_⟩, ?_, hM0.2.2.1, ⟨hM0.2.2.2.1.1, ?_, fun j j0 j1 => ?_⟩, hM0.2.2.2.2.1, fun s hs => ?_⟩
  · rw [gu_s, up_s]; rfl
  · show 0 ≤ 50; decide
  · have k1 : k < 0 := k1; omega
  · have k1 : k < 0 := k1; omega
  · rw [gu_n (by omega)]; exact hR
  · rw [gu_s, up_n (by omega)]; exact hM0.2.2.2.1.2.1
  · obtain ⟨g1, g2⟩ := hM0.2.2.2.1.2.2 j j0 j1
    exact ⟨g1, by { rw [gu_n (by omega)]; exact g2 }⟩
  · rw [gu_n (by omega), gu_n (by omega)]; exact hM0.2.2.2.2.2 s hs
set_option maxRecDepth 10000 in
theorem g_error {W : wt} (hM : MdA v W) : mv_Cl sc q_Mod_errorPosition [(2, 264)] c (mH h v) (fun r c' h' => r = (0, (sp_error W).2.1) ∧ c' = c ∧ ∃ w, h' = mH h w ∧ MdA w (sp_error W).2.2) := by
  have hM0 := hM
  obtain ⟨hTx, hR, ⟨hI, bn, bT⟩, hH, hz, hSv⟩ := hM
  have r0 := hR.1
  have r1 := hR.2.1
  show mv_Ev sc 112 0 [(2, 264)] [] c (mH h v) _
  have hK : (mv_m 112).1 = kc_Mod_errorPosition := rfl
  refine e_step (pc' := 1) hK rfl rfl rfl ?_
  refine e_cRV1 (z := 113) (pc' := 4) hK rfl rfl (by first | (simp (disch := omega) only [mH_t64, mH_r1, mH_r3, mH_r4, mH_r5, mH_r6, mH_r8, mH_r9, mH_r10, mH_r11, mH_r12, mH_r14, mH_i0, mH_i2, mH_i7, mH_i13, mH_i15, mH_t71, mH_t, mH_lr, mH_l65, mH_l69, mH_l70, mH_l71, mH_l72, mH_l73, mH_l74, mH_l75, mH_c]; rfl) | (show _ = 2; assumption) | (show _ = 1; assumption) | (show _ = 0; assumption) | (show _ = 3; assumption) | (show _ = 4; assumption)) rfl (Nat.le_of_ble_eq_true rfl) (Nat.le_of_ble_eq_true rfl) (m_wrong hTx) (by decide) rfl ?_
  try simp (disch := omega) only [mH_t64, mH_r1, mH_r3, mH_r4, mH_r5, mH_r6, mH_r8, mH_r9, mH_r10, mH_r11, mH_r12, mH_r14, mH_i0, mH_i2, mH_i7, mH_i13, mH_i15, mH_t71, mH_t, mH_lr, mH_l65, mH_l69, mH_l70, mH_l71, mH_l72, mH_l73, mH_l74, mH_l75, mH_c]
  refine e_ret hK rfl rfl rfl ?_
  exact ⟨rfl, rfl, v, rfl, hM0⟩
end GB
