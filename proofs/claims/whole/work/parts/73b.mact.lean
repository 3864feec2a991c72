/-! the reference's face: actions (written by wip/whole/m73.py) -/
section GC
variable {sc : Int × (Int → Int)} {c : mv_C} {h : mv_H} {v : mvt}
set_option maxRecDepth 10000 in
theorem g_learn {W : wt} (hM : MdA v W) : mv_Cl sc q_Mod_learn [(2, 264)] c (mH h v) (fun r c' h' => r = (0, (sp_learn W).2.1) ∧ c' = c ∧ ∃ w, h' = mH h w ∧ MdA w (sp_learn W).2.2) := by
  have hM0 := hM
  obtain ⟨hTx, hR, ⟨hI, bn, bT⟩, hH, hz, hSv⟩ := hM
  have r0 := hR.1
  have r1 := hR.2.1
  show mv_Ev sc 160 0 [(2, 264)] [] c (mH h v) _
  have hK : (mv_m 160).1 = kc_Mod_learn := rfl
  refine e_step (pc' := 1) hK rfl rfl rfl ?_
  refine e_cQV1 (z := 150) hK rfl rfl (by first | (simp (disch := omega) only [mH_t64, mH_r1, mH_r3, mH_r4, mH_r5, mH_r6, mH_r8, mH_r9, mH_r10, mH_r11, mH_r12, mH_r14, mH_i0, mH_i2, mH_i7, mH_i13, mH_i15, mH_t71, mH_t, mH_lr, mH_l65, mH_l69, mH_l70, mH_l71, mH_l72, mH_l73, mH_l74, mH_l75, mH_c]; rfl) | (show _ = 2; assumption) | (show _ = 1; assumption) | (show _ = 0; assumption) | (show _ = 3; assumption) | (show _ = 4; assumption)) rfl (Nat.le_of_ble_eq_true rfl) (Nat.le_of_ble_eq_true rfl) (m_remember hM0.2.2.2.1 hM0.2.1 hI) ?_
  rintro _ _ _ ⟨rfl, rfl, y, rfl, hy, hy4, hyH⟩
  refine ⟨by decide, ?_⟩
  rw [if_pos rfl]
  try dsimp only
  have ey : y 266 = v 266 := hy 266 (by omega) (by omega)
  have hRy : Rw (y 266) (wA W) := by { rw [ey]; exact hM0.2.1 }
  have ry0 := hRy.1
  have ry1 := hRy.2.1
  show mv_Ev _ _ 4 _ _ _ _ _
  refine e_step (pc' := 5) hK rfl rfl rfl ?_
  refine e_step (pc' := 6) hK rfl rfl rfl ?_
  refine e_getR (ci := 4) (k := 3) (pc' := 9) hK rfl (by simp (disch := omega) only [mH_t64, mH_r1, mH_r3, mH_r4, mH_r5, mH_r6, mH_r8, mH_r9, mH_r10, mH_r11, mH_r12, mH_r14, mH_i0, mH_i2, mH_i7, mH_i13, mH_i15, mH_t71, mH_t, mH_lr, mH_l65, mH_l69, mH_l70, mH_l71, mH_l72, mH_l73, mH_l74, mH_l75, mH_c, ry0, ry1]) rfl rfl (by decide) (by decide) (by (try simp (disch := omega) only [mH_t64, mH_r1, mH_r3, mH_r4, mH_r5, mH_r6, mH_r8, mH_r9, mH_r10, mH_r11, mH_r12, mH_r14, mH_i0, mH_i2, mH_i7, mH_i13, mH_i15, mH_t71, mH_t, mH_lr, mH_l65, mH_l69, mH_l70, mH_l71, mH_l72, mH_l73, mH_l74, mH_l75, mH_c, ry0, ry1]); omega) rfl ?_
  try simp (disch := omega) only [mH_t64, mH_r1, mH_r3, mH_r4, mH_r5, mH_r6, mH_r8, mH_r9, mH_r10, mH_r11, mH_r12, mH_r14, mH_i0, mH_i2, mH_i7, mH_i13, mH_i15, mH_t71, mH_t, mH_lr, mH_l65, mH_l69, mH_l70, mH_l71, mH_l72, mH_l73, mH_l74, mH_l75, mH_c, ry0, ry1]
  refine e_cQV2 (z := 161) hK rfl rfl (by first | (simp (disch := omega) only [mH_t64, mH_r1, mH_r3, mH_r4, mH_r5, mH_r6, mH_r8, mH_r9, mH_r10, mH_r11, mH_r12, mH_r14, mH_i0, mH_i2, mH_i7, mH_i13, mH_i15, mH_t71, mH_t, mH_lr, mH_l65, mH_l69, mH_l70, mH_l71, mH_l72, mH_l73, mH_l74, mH_l75, mH_c, ry0, ry1]; rfl) | (show _ = 2; assumption) | (show _ = 1; assumption) | (show _ = 0; assumption) | (show _ = 3; assumption) | (show _ = 4; assumption)) rfl (Nat.le_of_ble_eq_true rfl) (Nat.le_of_ble_eq_true rfl) (m_learnOn 266 (by omega) hRy hI) ?_
  rintro _ _ _ ⟨rfl, rfl, u, rfl, hu, ru⟩
  refine ⟨by show (0 : Nat) ≠ 4; decide, ?_⟩
  rw [if_neg (by show ¬ (0 : Nat) = 3; decide)]
  try dsimp only
  have ru0 := ru.1
  have ru1 := ru.2.1
  show mv_Ev _ _ 12 _ _ _ _ _
  refine e_ret hK rfl rfl rfl ?_
  exact ⟨rfl, rfl, u, rfl, hM0.act hy hy4 hyH hu ru (sz_gle ⟨hI, bn, bT⟩)⟩
set_option maxRecDepth 10000 in
theorem g_learnAll {W : wt} (hM : MdA v W) : mv_Cl sc q_Mod_learnAll [(2, 264)] c (mH h v) (fun r c' h' => r = (0, (sp_learnAll W).2.1) ∧ c' = c ∧ ∃ w, h' = mH h w ∧ MdA w (sp_learnAll W).2.2) := by
  have hM0 := hM
  obtain ⟨hTx, hR, ⟨hI, bn, bT⟩, hH, hz, hSv⟩ := hM
  have r0 := hR.1
  have r1 := hR.2.1
  show mv_Ev sc 163 0 [(2, 264)] [] c (mH h v) _
  have hK : (mv_m 163).1 = kc_Mod_learnAll := rfl
  refine e_step (pc' := 1) hK rfl rfl rfl ?_
  refine e_cQV1 (z := 150) hK rfl rfl (by first | (simp (disch := omega) only [mH_t64, mH_r1, mH_r3, mH_r4, mH_r5, mH_r6, mH_r8, mH_r9, mH_r10, mH_r11, mH_r12, mH_r14, mH_i0, mH_i2, mH_i7, mH_i13, mH_i15, mH_t71, mH_t, mH_lr, mH_l65, mH_l69, mH_l70, mH_l71, mH_l72, mH_l73, mH_l74, mH_l75, mH_c]; rfl) | (show _ = 2; assumption) | (show _ = 1; assumption) | (show _ = 0; assumption) | (show _ = 3; assumption) | (show _ = 4; assumption)) rfl (Nat.le_of_ble_eq_true rfl) (Nat.le_of_ble_eq_true rfl) (m_remember hM0.2.2.2.1 hM0.2.1 hI) ?_
  rintro _ _ _ ⟨rfl, rfl, y, rfl, hy, hy4, hyH⟩
  refine ⟨by decide, ?_⟩
  rw [if_pos rfl]
  try dsimp only
  have ey : y 266 = v 266 := hy 266 (by omega) (by omega)
  have hRy : Rw (y 266) (wA W) := by { rw [ey]; exact hM0.2.1 }
  have ry0 := hRy.1
  have ry1 := hRy.2.1
  show mv_Ev _ _ 4 _ _ _ _ _
  refine e_step (pc' := 5) hK rfl rfl rfl ?_
  refine e_step (pc' := 6) hK rfl rfl rfl ?_
  refine e_getR (ci := 4) (k := 3) (pc' := 9) hK rfl (by simp (disch := omega) only [mH_t64, mH_r1, mH_r3, mH_r4, mH_r5, mH_r6, mH_r8, mH_r9, mH_r10, mH_r11, mH_r12, mH_r14, mH_i0, mH_i2, mH_i7, mH_i13, mH_i15, mH_t71, mH_t, mH_lr, mH_l65, mH_l69, mH_l70, mH_l71, mH_l72, mH_l73, mH_l74, mH_l75, mH_c, ry0, ry1]) rfl rfl (by decide) (by decide) (by (try simp (disch := omega) only [mH_t64, mH_r1, mH_r3, mH_r4, mH_r5, mH_r6, mH_r8, mH_r9, mH_r10, mH_r11, mH_r12, mH_r14, mH_i0, mH_i2, mH_i7, mH_i13, mH_i15, mH_t71, mH_t, mH_lr, mH_l65, mH_l69, mH_l70, mH_l71, mH_l72, mH_l73, mH_l74, mH_l75, mH_c, ry0, ry1]); omega) rfl ?_
  try simp (disch := omega) only [mH_t64, mH_r1, mH_r3, mH_r4, mH_r5, mH_r6, mH_r8, mH_r9, mH_r10, mH_r11, mH_r12, mH_r14, mH_i0, mH_i2, mH_i7, mH_i13, mH_i15, mH_t71, mH_t, mH_lr, mH_l65, mH_l69, mH_l70, mH_l71, mH_l72, mH_l73, mH_l74, mH_l75, mH_c, ry0, ry1]
  refine e_cQV2 (z := 164) hK rfl rfl (by first | (simp (disch := omega) only [mH_t64, mH_r1, mH_r3, mH_r4, mH_r5, mH_r6, mH_r8, mH_r9, mH_r10, mH_r11, mH_r12, mH_r14, mH_i0, mH_i2, mH_i7, mH_i13, mH_i15, mH_t71, mH_t, mH_lr, mH_l65, mH_l69, mH_l70, mH_l71, mH_l72, mH_l73, mH_l74, mH_l75, mH_c, ry0, ry1]; rfl) | (show _ = 2; assumption) | (show _ = 1; assumption) | (show _ = 0; assumption) | (show _ = 3; assumption) | (show _ = 4; assumption)) rfl (Nat.le_of_ble_eq_true rfl) (Nat.le_of_ble_eq_true rfl) (m_learnAll 266 (by omega) hRy hI bT) ?_
  rintro _ _ _ ⟨rfl, rfl, u, rfl, hu, ru⟩
  refine ⟨by show (0 : Nat) ≠ 4; decide, ?_⟩
  rw [if_neg (by show ¬ (0 : Nat) = 3; decide)]
  try dsimp only
  have ru0 := ru.1
  have ru1 := ru.2.1
  show mv_Ev _ _ 12 _ _ _ _ _
  refine e_ret hK rfl rfl rfl ?_
  exact ⟨rfl, rfl, u, rfl, hM0.act hy hy4 hyH hu ru (sz_gall 12 ⟨hI, bn, bT⟩)⟩
set_option maxRecDepth 10000 in
theorem g_remove {W : wt} (hM : MdA v W) (i : Int) (hi : mv_i i) : mv_Cl sc q_Mod_remove [(2, 264), (0, i)] c (mH h v) (fun r c' h' => r = (0, (sp_remove W i).2.1) ∧ c' = c ∧ ∃ w, h' = mH h w ∧ MdA w (sp_remove W i).2.2 ∧ w 264 0 = (sp_remove W i).1) := by
  have hM0 := hM
  obtain ⟨hTx, hR, ⟨hI, bn, bT⟩, hH, hz, hSv⟩ := hM
  have r0 := hR.1
  have r1 := hR.2.1
  show mv_Ev sc 157 0 [(2, 264), (0, i)] [] c (mH h v) _
  have hK : (mv_m 157).1 = kc_Mod_remove := rfl
  refine e_step (pc' := 1) hK rfl rfl rfl ?_
  refine e_step (pc' := 2) hK rfl rfl rfl ?_
  refine e_getR (ci := 4) (k := 3) (pc' := 5) hK rfl (by simp (disch := omega) only [mH_t64, mH_r1, mH_r3, mH_r4, mH_r5, mH_r6, mH_r8, mH_r9, mH_r10, mH_r11, mH_r12, mH_r14, mH_i0, mH_i2, mH_i7, mH_i13, mH_i15, mH_t71, mH_t, mH_lr, mH_l65, mH_l69, mH_l70, mH_l71, mH_l72, mH_l73, mH_l74, mH_l75, mH_c, r0]) rfl rfl (by decide) (by decide) (by (try simp (disch := omega) only [mH_t64, mH_r1, mH_r3, mH_r4, mH_r5, mH_r6, mH_r8, mH_r9, mH_r10, mH_r11, mH_r12, mH_r14, mH_i0, mH_i2, mH_i7, mH_i13, mH_i15, mH_t71, mH_t, mH_lr, mH_l65, mH_l69, mH_l70, mH_l71, mH_l72, mH_l73, mH_l74, mH_l75, mH_c, r0]); first | omega | exact bo_i _) rfl ?_
  try simp (disch := omega) only [mH_t64, mH_r1, mH_r3, mH_r4, mH_r5, mH_r6, mH_r8, mH_r9, mH_r10, mH_r11, mH_r12, mH_r14, mH_i0, mH_i2, mH_i7, mH_i13, mH_i15, mH_t71, mH_t, mH_lr, mH_l65, mH_l69, mH_l70, mH_l71, mH_l72, mH_l73, mH_l74, mH_l75, mH_c, r0]
  refine e_step (pc' := 6) hK rfl rfl rfl ?_
  refine e_cRS2 (z := 134) (pc' := 9) hK rfl rfl rfl (Nat.le_of_ble_eq_true rfl) (Nat.le_of_ble_eq_true rfl) (m_isLine 266 (by omega) i hi (by rw [r0]; omega)) (by decide) rfl ?_
  try simp (disch := omega) only [mH_t64, mH_r1, mH_r3, mH_r4, mH_r5, mH_r6, mH_r8, mH_r9, mH_r10, mH_r11, mH_r12, mH_r14, mH_i0, mH_i2, mH_i7, mH_i13, mH_i15, mH_t71, mH_t, mH_lr, mH_l65, mH_l69, mH_l70, mH_l71, mH_l72, mH_l73, mH_l74, mH_l75, mH_c, r0]
  refine e_if (t := 16) (pc' := 12) hK rfl (by first | omega | exact bo_i _) (by decide) rfl (fun hb9 => ?_) (fun hb9 => ?_)
  · replace hb9 := cq_eq.1.mp hb9
    try simp only [bo_0, Bool.not_eq_false] at hb9
    simp only [Bool.and_eq_false_iff, decide_eq_false_iff_not] at hb9
    refine e_step (pc' := 17) hK rfl rfl rfl ?_
    refine e_cQV2 (z := 110) hK rfl rfl (by first | (simp (disch := omega) only [mH_t64, mH_r1, mH_r3, mH_r4, mH_r5, mH_r6, mH_r8, mH_r9, mH_r10, mH_r11, mH_r12, mH_r14, mH_i0, mH_i2, mH_i7, mH_i13, mH_i15, mH_t71, mH_t, mH_lr, mH_l65, mH_l69, mH_l70, mH_l71, mH_l72, mH_l73, mH_l74, mH_l75, mH_c, r0]; rfl) | (show _ = 2; assumption) | (show _ = 1; assumption) | (show _ = 0; assumption) | (show _ = 3; assumption) | (show _ = 4; assumption)) rfl (Nat.le_of_ble_eq_true rfl) (Nat.le_of_ble_eq_true rfl) (m_refP 1 (by omega)) ?_
    rintro _ _ _ ⟨rfl, rfl, rfl⟩
    refine ⟨by show (0 : Nat) ≠ 4; decide, ?_⟩
    rw [if_neg (by show ¬ (0 : Nat) = 3; decide)]
    try dsimp only
    have hM1 := hM0.rf 1
    obtain ⟨v1, hv1⟩ : ∃ v1, v1 = gu v 264 (mv_up (v 264) 0 1) := ⟨_, rfl⟩
    rw [← hv1] at hM1 ⊢
    have z1 : v1 264 0 = 1 := by { rw [hv1, gu_s, up_s] }
    have eo1 : ∀ b : Int, b ≠ 264 → v1 b = v b := fun b hb => by { rw [hv1]; exact gu_n hb }
    have ef1 : ∀ k : Int, k ≠ 0 → v1 264 k = v 264 k := fun k hk => by { rw [hv1, gu_s, up_n hk] }
    have hR1 := hM1.2.1
    have ra1 := hR1.1
    have rb1 := hR1.2.1
    clear hv1
    show mv_Ev _ _ 20 _ _ _ _ _
    refine e_if (t := 25) (pc' := 23) hK rfl (by first | omega | exact bo_i _) (by decide) rfl (fun hb20 => ?_) (fun hb20 => ?_)
    · replace hb20 := cq_eq.1.mp hb20
      try simp only [bo_0, Bool.not_eq_false] at hb20
      exfalso; first | omega | exact absurd trivial (by assumption) | (first | omega | exact bo_i _)
    · replace hb20 := cq_eq.2.mp hb20
      try simp only [bo_0, Bool.not_eq_false] at hb20
      refine e_step (pc' := 24) hK rfl rfl rfl ?_
      refine e_ret hK rfl rfl rfl ?_
      have e9 : sp_remove W i = (1, 0, W) := by { unfold sp_remove; (repeat (first | rw [if_pos (by omega)] | rw [if_neg (by omega)])) }
      rw [e9]
      exact ⟨rfl, rfl, v1, rfl, hM1, z1⟩
  · replace hb9 := cq_eq.2.mp hb9
    try simp only [bo_0, Bool.not_eq_false] at hb9
    simp only [Bool.and_eq_true, decide_eq_true_eq] at hb9
    refine e_step (pc' := 13) hK rfl rfl rfl ?_
    refine e_goto (t := 17) hK rfl (by decide) ?_
    refine e_cQV2 (z := 110) hK rfl rfl (by first | (simp (disch := omega) only [mH_t64, mH_r1, mH_r3, mH_r4, mH_r5, mH_r6, mH_r8, mH_r9, mH_r10, mH_r11, mH_r12, mH_r14, mH_i0, mH_i2, mH_i7, mH_i13, mH_i15, mH_t71, mH_t, mH_lr, mH_l65, mH_l69, mH_l70, mH_l71, mH_l72, mH_l73, mH_l74, mH_l75, mH_c, r0]; rfl) | (show _ = 2; assumption) | (show _ = 1; assumption) | (show _ = 0; assumption) | (show _ = 3; assumption) | (show _ = 4; assumption)) rfl (Nat.le_of_ble_eq_true rfl) (Nat.le_of_ble_eq_true rfl) (m_ref0) ?_
    rintro _ _ _ ⟨rfl, rfl, rfl⟩
    refine ⟨by show (0 : Nat) ≠ 4; decide, ?_⟩
    rw [if_neg (by show ¬ (0 : Nat) = 3; decide)]
    try dsimp only
    have hM1 := hM0.rf 0
    obtain ⟨v1, hv1⟩ : ∃ v1, v1 = gu v 264 (mv_up (v 264) 0 0) := ⟨_, rfl⟩
    rw [← hv1] at hM1 ⊢
    have z1 : v1 264 0 = 0 := by { rw [hv1, gu_s, up_s] }
    have eo1 : ∀ b : Int, b ≠ 264 → v1 b = v b := fun b hb => by { rw [hv1]; exact gu_n hb }
    have ef1 : ∀ k : Int, k ≠ 0 → v1 264 k = v 264 k := fun k hk => by { rw [hv1, gu_s, up_n hk] }
    have hR1 := hM1.2.1
    have ra1 := hR1.1
    have rb1 := hR1.2.1
    clear hv1
    show mv_Ev _ _ 20 _ _ _ _ _
    refine e_if (t := 25) (pc' := 23) hK rfl (by first | omega | exact bo_i _) (by decide) rfl (fun hb20 => ?_) (fun hb20 => ?_)
    · replace hb20 := cq_eq.1.mp hb20
      try simp only [bo_0, Bool.not_eq_false] at hb20
      refine e_step (pc' := 26) hK rfl rfl rfl ?_
      refine e_cQV1 (z := 150) hK rfl rfl (by first | (simp (disch := omega) only [mH_t64, mH_r1, mH_r3, mH_r4, mH_r5, mH_r6, mH_r8, mH_r9, mH_r10, mH_r11, mH_r12, mH_r14, mH_i0, mH_i2, mH_i7, mH_i13, mH_i15, mH_t71, mH_t, mH_lr, mH_l65, mH_l69, mH_l70, mH_l71, mH_l72, mH_l73, mH_l74, mH_l75, mH_c, r0, ra1, rb1]; rfl) | (show _ = 2; assumption) | (show _ = 1; assumption) | (show _ = 0; assumption) | (show _ = 3; assumption) | (show _ = 4; assumption)) rfl (Nat.le_of_ble_eq_true rfl) (Nat.le_of_ble_eq_true rfl) (m_remember hM1.2.2.2.1 hM1.2.1 hI) ?_
      rintro _ _ _ ⟨rfl, rfl, y, rfl, hy, hy4, hyH⟩
      refine ⟨by decide, ?_⟩
      rw [if_pos rfl]
      try dsimp only
      have ey : y 266 = v1 266 := hy 266 (by omega) (by omega)
      have hRy : Rw (y 266) (wA W) := by { rw [ey]; exact hM1.2.1 }
      have ry0 := hRy.1
      have ry1 := hRy.2.1
      show mv_Ev _ _ 29 _ _ _ _ _
      refine e_step (pc' := 30) hK rfl rfl rfl ?_
      refine e_getR (ci := 4) (k := 3) (pc' := 33) hK rfl (by simp (disch := omega) only [mH_t64, mH_r1, mH_r3, mH_r4, mH_r5, mH_r6, mH_r8, mH_r9, mH_r10, mH_r11, mH_r12, mH_r14, mH_i0, mH_i2, mH_i7, mH_i13, mH_i15, mH_t71, mH_t, mH_lr, mH_l65, mH_l69, mH_l70, mH_l71, mH_l72, mH_l73, mH_l74, mH_l75, mH_c, r0, ra1, rb1, ry0, ry1]) rfl rfl (by decide) (by decide) (by (try simp (disch := omega) only [mH_t64, mH_r1, mH_r3, mH_r4, mH_r5, mH_r6, mH_r8, mH_r9, mH_r10, mH_r11, mH_r12, mH_r14, mH_i0, mH_i2, mH_i7, mH_i13, mH_i15, mH_t71, mH_t, mH_lr, mH_l65, mH_l69, mH_l70, mH_l71, mH_l72, mH_l73, mH_l74, mH_l75, mH_c, r0, ra1, rb1, ry0, ry1]); first | omega | exact bo_i _) rfl ?_
      try simp (disch := omega) only [mH_t64, mH_r1, mH_r3, mH_r4, mH_r5, mH_r6, mH_r8, mH_r9, mH_r10, mH_r11, mH_r12, mH_r14, mH_i0, mH_i2, mH_i7, mH_i13, mH_i15, mH_t71, mH_t, mH_lr, mH_l65, mH_l69, mH_l70, mH_l71, mH_l72, mH_l73, mH_l74, mH_l75, mH_c, r0, ra1, rb1, ry0, ry1]
      refine e_step (pc' := 34) hK rfl rfl rfl ?_
      refine e_cQS2 (z := 158) hK rfl rfl rfl (Nat.le_of_ble_eq_true rfl) (Nat.le_of_ble_eq_true rfl) (m_removeOn 266 (by omega) hRy hI i (by omega) (by omega)) ?_
      rintro _ _ _ ⟨rfl, rfl, u, rfl, hu0, ru⟩
      refine ⟨by show (0 : Nat) ≠ 4; decide, ?_⟩
      rw [if_neg (by show ¬ (0 : Nat) = 3; decide)]
      try dsimp only
      have hu := mq_o hu0
      show mv_Ev _ _ 37 _ _ _ _ _
      refine e_ret hK rfl rfl rfl ?_
      have e9 : sp_remove W i = (0, ((gT (gdrop (wA W) i) : Nat) : Int), w_R W (gdrop (wA W) i)) := by { unfold sp_remove; (repeat (first | rw [if_pos (by omega)] | rw [if_neg (by omega)])) }
      rw [e9]
      exact ⟨rfl, rfl, u, rfl, hM1.act hy hy4 hyH hu ru (sz_drop ⟨hI, bn, bT⟩ (by omega) (by omega)), ((congrFun (hu 264 (by omega) (by omega) (by omega) (by omega)) 0).trans ((hy4 0 (by omega)).trans z1))⟩
    · replace hb20 := cq_eq.2.mp hb20
      try simp only [bo_0, Bool.not_eq_false] at hb20
      exfalso; first | omega | exact absurd trivial (by assumption) | (first | omega | exact bo_i _)
set_option maxRecDepth 10000 in
theorem g_again {W : wt} (hM : MdA v W) (i : Int) (hi : mv_i i) : mv_Cl sc q_Mod_again [(2, 264), (0, i)] c (mH h v) (fun r c' h' => r = (0, (sp_again W i).2.1) ∧ c' = c ∧ ∃ w, h' = mH h w ∧ MdA w (sp_again W i).2.2 ∧ w 264 0 = (sp_again W i).1) := by
  have hM0 := hM
  obtain ⟨hTx, hR, ⟨hI, bn, bT⟩, hH, hz, hSv⟩ := hM
  have r0 := hR.1
  have r1 := hR.2.1
  show mv_Ev sc 154 0 [(2, 264), (0, i)] [] c (mH h v) _
  have hK : (mv_m 154).1 = kc_Mod_again := rfl
  refine e_step (pc' := 1) hK rfl rfl rfl ?_
  refine e_step (pc' := 2) hK rfl rfl rfl ?_
  refine e_getR (ci := 4) (k := 3) (pc' := 5) hK rfl (by simp (disch := omega) only [mH_t64, mH_r1, mH_r3, mH_r4, mH_r5, mH_r6, mH_r8, mH_r9, mH_r10, mH_r11, mH_r12, mH_r14, mH_i0, mH_i2, mH_i7, mH_i13, mH_i15, mH_t71, mH_t, mH_lr, mH_l65, mH_l69, mH_l70, mH_l71, mH_l72, mH_l73, mH_l74, mH_l75, mH_c, r0]) rfl rfl (by decide) (by decide) (by (try simp (disch := omega) only [mH_t64, mH_r1, mH_r3, mH_r4, mH_r5, mH_r6, mH_r8, mH_r9, mH_r10, mH_r11, mH_r12, mH_r14, mH_i0, mH_i2, mH_i7, mH_i13, mH_i15, mH_t71, mH_t, mH_lr, mH_l65, mH_l69, mH_l70, mH_l71, mH_l72, mH_l73, mH_l74, mH_l75, mH_c, r0]); first | omega | exact bo_i _) rfl ?_
  try simp (disch := omega) only [mH_t64, mH_r1, mH_r3, mH_r4, mH_r5, mH_r6, mH_r8, mH_r9, mH_r10, mH_r11, mH_r12, mH_r14, mH_i0, mH_i2, mH_i7, mH_i13, mH_i15, mH_t71, mH_t, mH_lr, mH_l65, mH_l69, mH_l70, mH_l71, mH_l72, mH_l73, mH_l74, mH_l75, mH_c, r0]
  refine e_step (pc' := 6) hK rfl rfl rfl ?_
  refine e_cRS2 (z := 134) (pc' := 9) hK rfl rfl rfl (Nat.le_of_ble_eq_true rfl) (Nat.le_of_ble_eq_true rfl) (m_isLine 266 (by omega) i hi (by rw [r0]; omega)) (by decide) rfl ?_
  try simp (disch := omega) only [mH_t64, mH_r1, mH_r3, mH_r4, mH_r5, mH_r6, mH_r8, mH_r9, mH_r10, mH_r11, mH_r12, mH_r14, mH_i0, mH_i2, mH_i7, mH_i13, mH_i15, mH_t71, mH_t, mH_lr, mH_l65, mH_l69, mH_l70, mH_l71, mH_l72, mH_l73, mH_l74, mH_l75, mH_c, r0]
  refine e_if (t := 16) (pc' := 12) hK rfl (by first | omega | exact bo_i _) (by decide) rfl (fun hb9 => ?_) (fun hb9 => ?_)
  · replace hb9 := cq_ne.1.mp hb9
    try simp only [bo_0, Bool.not_eq_false] at hb9
    simp only [Bool.and_eq_true, decide_eq_true_eq] at hb9
    have egl := gl_L (A := wA W) (show 0 ≤ i by omega) (show i < gn (wA W) by omega)
    have hfo := gff_own hI (show 0 ≤ i by omega) (show i < gn (wA W) by omega)
    have hgc := gtf_c (A := wA W) (x := gL (wA W) i)
    have hge : gtf (wA W) (gL (wA W) i) = -9999 ↔ 24 ≤ gn (wA W) := ⟨fun e => by have := hgc.1 e; omega, fun e => if_pos e⟩
    refine e_step (pc' := 17) hK rfl rfl rfl ?_
    refine e_getR (ci := 4) (k := 3) (pc' := 20) hK rfl (by simp (disch := omega) only [mH_t64, mH_r1, mH_r3, mH_r4, mH_r5, mH_r6, mH_r8, mH_r9, mH_r10, mH_r11, mH_r12, mH_r14, mH_i0, mH_i2, mH_i7, mH_i13, mH_i15, mH_t71, mH_t, mH_lr, mH_l65, mH_l69, mH_l70, mH_l71, mH_l72, mH_l73, mH_l74, mH_l75, mH_c, r0]) rfl rfl (by decide) (by decide) (by (try simp (disch := omega) only [mH_t64, mH_r1, mH_r3, mH_r4, mH_r5, mH_r6, mH_r8, mH_r9, mH_r10, mH_r11, mH_r12, mH_r14, mH_i0, mH_i2, mH_i7, mH_i13, mH_i15, mH_t71, mH_t, mH_lr, mH_l65, mH_l69, mH_l70, mH_l71, mH_l72, mH_l73, mH_l74, mH_l75, mH_c, r0]); first | omega | exact bo_i _) rfl ?_
    try simp (disch := omega) only [mH_t64, mH_r1, mH_r3, mH_r4, mH_r5, mH_r6, mH_r8, mH_r9, mH_r10, mH_r11, mH_r12, mH_r14, mH_i0, mH_i2, mH_i7, mH_i13, mH_i15, mH_t71, mH_t, mH_lr, mH_l65, mH_l69, mH_l70, mH_l71, mH_l72, mH_l73, mH_l74, mH_l75, mH_c, r0]
    refine e_step (pc' := 21) hK rfl rfl rfl ?_
    refine e_iald (pc' := 22) hK rfl (by simp (disch := omega) only [mH_t64, mH_r1, mH_r3, mH_r4, mH_r5, mH_r6, mH_r8, mH_r9, mH_r10, mH_r11, mH_r12, mH_r14, mH_i0, mH_i2, mH_i7, mH_i13, mH_i15, mH_t71, mH_t, mH_lr, mH_l65, mH_l69, mH_l70, mH_l71, mH_l72, mH_l73, mH_l74, mH_l75, mH_c, r0]) (by first | omega | exact bo_i _) (by (try simp (disch := omega) only [mH_t64, mH_r1, mH_r3, mH_r4, mH_r5, mH_r6, mH_r8, mH_r9, mH_r10, mH_r11, mH_r12, mH_r14, mH_i0, mH_i2, mH_i7, mH_i13, mH_i15, mH_t71, mH_t, mH_lr, mH_l65, mH_l69, mH_l70, mH_l71, mH_l72, mH_l73, mH_l74, mH_l75, mH_c, r0]); first | omega | exact bo_i _) rfl ?_
    try simp (disch := omega) only [mH_t64, mH_r1, mH_r3, mH_r4, mH_r5, mH_r6, mH_r8, mH_r9, mH_r10, mH_r11, mH_r12, mH_r14, mH_i0, mH_i2, mH_i7, mH_i13, mH_i15, mH_t71, mH_t, mH_lr, mH_l65, mH_l69, mH_l70, mH_l71, mH_l72, mH_l73, mH_l74, mH_l75, mH_c, r0]
    refine e_step (pc' := 24) hK rfl rfl rfl ?_
    refine e_icmp (t := 31) (pc' := 27) hK rfl (by first | omega | exact bo_i _) (by first | omega | exact bo_i _) (by decide) rfl (fun hb24 => ?_) (fun hb24 => ?_)
    · replace hb24 := cq_ne.1.mp hb24
      try simp only [bo_0, Bool.not_eq_false] at hb24
      refine e_step (pc' := 32) hK rfl rfl rfl ?_
      refine e_cQV2 (z := 110) hK rfl rfl (by first | (simp (disch := omega) only [mH_t64, mH_r1, mH_r3, mH_r4, mH_r5, mH_r6, mH_r8, mH_r9, mH_r10, mH_r11, mH_r12, mH_r14, mH_i0, mH_i2, mH_i7, mH_i13, mH_i15, mH_t71, mH_t, mH_lr, mH_l65, mH_l69, mH_l70, mH_l71, mH_l72, mH_l73, mH_l74, mH_l75, mH_c, r0]; rfl) | (show _ = 2; assumption) | (show _ = 1; assumption) | (show _ = 0; assumption) | (show _ = 3; assumption) | (show _ = 4; assumption)) rfl (Nat.le_of_ble_eq_true rfl) (Nat.le_of_ble_eq_true rfl) (m_ref0) ?_
      rintro _ _ _ ⟨rfl, rfl, rfl⟩
      refine ⟨by show (0 : Nat) ≠ 4; decide, ?_⟩
      rw [if_neg (by show ¬ (0 : Nat) = 3; decide)]
      try dsimp only
      have hM1 := hM0.rf 0
      obtain ⟨v1, hv1⟩ : ∃ v1, v1 = gu v 264 (mv_up (v 264) 0 0) := ⟨_, rfl⟩
      rw [← hv1] at hM1 ⊢
      have z1 : v1 264 0 = 0 := by { rw [hv1, gu_s, up_s] }
      have eo1 : ∀ b : Int, b ≠ 264 → v1 b = v b := fun b hb => by { rw [hv1]; exact gu_n hb }
      have ef1 : ∀ k : Int, k ≠ 0 → v1 264 k = v 264 k := fun k hk => by { rw [hv1, gu_s, up_n hk] }
      have hR1 := hM1.2.1
      have ra1 := hR1.1
      have rb1 := hR1.2.1
      clear hv1
      show mv_Ev _ _ 35 _ _ _ _ _
      refine e_if (t := 40) (pc' := 38) hK rfl (by first | omega | exact bo_i _) (by decide) rfl (fun hb35 => ?_) (fun hb35 => ?_)
      · replace hb35 := cq_eq.1.mp hb35
        try simp only [bo_0, Bool.not_eq_false] at hb35
        refine e_step (pc' := 41) hK rfl rfl rfl ?_
        refine e_cQV1 (z := 150) hK rfl rfl (by first | (simp (disch := omega) only [mH_t64, mH_r1, mH_r3, mH_r4, mH_r5, mH_r6, mH_r8, mH_r9, mH_r10, mH_r11, mH_r12, mH_r14, mH_i0, mH_i2, mH_i7, mH_i13, mH_i15, mH_t71, mH_t, mH_lr, mH_l65, mH_l69, mH_l70, mH_l71, mH_l72, mH_l73, mH_l74, mH_l75, mH_c, r0, ra1, rb1]; rfl) | (show _ = 2; assumption) | (show _ = 1; assumption) | (show _ = 0; assumption) | (show _ = 3; assumption) | (show _ = 4; assumption)) rfl (Nat.le_of_ble_eq_true rfl) (Nat.le_of_ble_eq_true rfl) (m_remember hM1.2.2.2.1 hM1.2.1 hI) ?_
        rintro _ _ _ ⟨rfl, rfl, y, rfl, hy, hy4, hyH⟩
        refine ⟨by decide, ?_⟩
        rw [if_pos rfl]
        try dsimp only
        have ey : y 266 = v1 266 := hy 266 (by omega) (by omega)
        have hRy : Rw (y 266) (wA W) := by { rw [ey]; exact hM1.2.1 }
        have ry0 := hRy.1
        have ry1 := hRy.2.1
        show mv_Ev _ _ 44 _ _ _ _ _
        refine e_step (pc' := 45) hK rfl rfl rfl ?_
        refine e_step (pc' := 46) hK rfl rfl rfl ?_
        refine e_getR (ci := 4) (k := 3) (pc' := 49) hK rfl (by simp (disch := omega) only [mH_t64, mH_r1, mH_r3, mH_r4, mH_r5, mH_r6, mH_r8, mH_r9, mH_r10, mH_r11, mH_r12, mH_r14, mH_i0, mH_i2, mH_i7, mH_i13, mH_i15, mH_t71, mH_t, mH_lr, mH_l65, mH_l69, mH_l70, mH_l71, mH_l72, mH_l73, mH_l74, mH_l75, mH_c, r0, ra1, rb1, ry0, ry1]) rfl rfl (by decide) (by decide) (by (try simp (disch := omega) only [mH_t64, mH_r1, mH_r3, mH_r4, mH_r5, mH_r6, mH_r8, mH_r9, mH_r10, mH_r11, mH_r12, mH_r14, mH_i0, mH_i2, mH_i7, mH_i13, mH_i15, mH_t71, mH_t, mH_lr, mH_l65, mH_l69, mH_l70, mH_l71, mH_l72, mH_l73, mH_l74, mH_l75, mH_c, r0, ra1, rb1, ry0, ry1]); first | omega | exact bo_i _) rfl ?_
        try simp (disch := omega) only [mH_t64, mH_r1, mH_r3, mH_r4, mH_r5, mH_r6, mH_r8, mH_r9, mH_r10, mH_r11, mH_r12, mH_r14, mH_i0, mH_i2, mH_i7, mH_i13, mH_i15, mH_t71, mH_t, mH_lr, mH_l65, mH_l69, mH_l70, mH_l71, mH_l72, mH_l73, mH_l74, mH_l75, mH_c, r0, ra1, rb1, ry0, ry1]
        refine e_step (pc' := 50) hK rfl rfl rfl ?_
        refine e_cQV3 (z := 155) hK rfl rfl (by first | (simp (disch := omega) only [mH_t64, mH_r1, mH_r3, mH_r4, mH_r5, mH_r6, mH_r8, mH_r9, mH_r10, mH_r11, mH_r12, mH_r14, mH_i0, mH_i2, mH_i7, mH_i13, mH_i15, mH_t71, mH_t, mH_lr, mH_l65, mH_l69, mH_l70, mH_l71, mH_l72, mH_l73, mH_l74, mH_l75, mH_c, r0, ra1, rb1, ry0, ry1]; rfl) | (show _ = 2; assumption) | (show _ = 1; assumption) | (show _ = 0; assumption) | (show _ = 3; assumption) | (show _ = 4; assumption)) rfl (Nat.le_of_ble_eq_true rfl) (Nat.le_of_ble_eq_true rfl) (m_againOn 266 (by omega) hRy hI i (by omega) (by omega) (by omega) bT) ?_
        rintro _ _ _ ⟨rfl, rfl, u, rfl, hu, ru⟩
        refine ⟨by show (0 : Nat) ≠ 4; decide, ?_⟩
        rw [if_neg (by show ¬ (0 : Nat) = 3; decide)]
        try dsimp only
        have ru0 := ru.1
        have ru1 := ru.2.1
        show mv_Ev _ _ 53 _ _ _ _ _
        refine e_ret hK rfl rfl rfl ?_
        have hne : gtf (wA W) (gL (wA W) i) ≠ -9999 := fun e => by have := hge.mp e; omega
        have egp := gput_w hne bT
        rw [← egp] at ru
        have e9 : sp_again W i = (0, ((gn (wA W) : Nat) : Int), w_R W (gput (wA W) (gL (wA W) i) (gtf (wA W) (gL (wA W) i)))) := by { unfold sp_again; rw [egl]; (repeat (first | rw [if_pos (by omega)] | rw [if_neg (by omega)])) }
        rw [e9]
        exact ⟨rfl, rfl, u, rfl, hM1.act hy hy4 hyH hu ru (sz_put ⟨hI, bn, bT⟩ (gLok hI (by omega) (by omega)) hne), ((congrFun (hu 264 (by omega) (by omega) (by omega) (by omega)) 0).trans ((hy4 0 (by omega)).trans z1))⟩
      · replace hb35 := cq_eq.2.mp hb35
        try simp only [bo_0, Bool.not_eq_false] at hb35
        exfalso; first | omega | exact absurd trivial (by assumption) | (first | omega | exact bo_i _)
    · replace hb24 := cq_ne.2.mp hb24
      try simp only [bo_0, Bool.not_eq_false] at hb24
      refine e_step (pc' := 28) hK rfl rfl rfl ?_
      refine e_goto (t := 32) hK rfl (by decide) ?_
      refine e_cQV2 (z := 110) hK rfl rfl (by first | (simp (disch := omega) only [mH_t64, mH_r1, mH_r3, mH_r4, mH_r5, mH_r6, mH_r8, mH_r9, mH_r10, mH_r11, mH_r12, mH_r14, mH_i0, mH_i2, mH_i7, mH_i13, mH_i15, mH_t71, mH_t, mH_lr, mH_l65, mH_l69, mH_l70, mH_l71, mH_l72, mH_l73, mH_l74, mH_l75, mH_c, r0]; rfl) | (show _ = 2; assumption) | (show _ = 1; assumption) | (show _ = 0; assumption) | (show _ = 3; assumption) | (show _ = 4; assumption)) rfl (Nat.le_of_ble_eq_true rfl) (Nat.le_of_ble_eq_true rfl) (m_refP 2 (by omega)) ?_
      rintro _ _ _ ⟨rfl, rfl, rfl⟩
      refine ⟨by show (0 : Nat) ≠ 4; decide, ?_⟩
      rw [if_neg (by show ¬ (0 : Nat) = 3; decide)]
      try dsimp only
      have hM1 := hM0.rf 2
      obtain ⟨v1, hv1⟩ : ∃ v1, v1 = gu v 264 (mv_up (v 264) 0 2) := ⟨_, rfl⟩
      rw [← hv1] at hM1 ⊢
      have z1 : v1 264 0 = 2 := by { rw [hv1, gu_s, up_s] }
      have eo1 : ∀ b : Int, b ≠ 264 → v1 b = v b := fun b hb => by { rw [hv1]; exact gu_n hb }
      have ef1 : ∀ k : Int, k ≠ 0 → v1 264 k = v 264 k := fun k hk => by { rw [hv1, gu_s, up_n hk] }
      have hR1 := hM1.2.1
      have ra1 := hR1.1
      have rb1 := hR1.2.1
      clear hv1
      show mv_Ev _ _ 35 _ _ _ _ _
      refine e_if (t := 40) (pc' := 38) hK rfl (by first | omega | exact bo_i _) (by decide) rfl (fun hb35 => ?_) (fun hb35 => ?_)
      · replace hb35 := cq_eq.1.mp hb35
        try simp only [bo_0, Bool.not_eq_false] at hb35
        exfalso; first | omega | exact absurd trivial (by assumption) | (first | omega | exact bo_i _)
      · replace hb35 := cq_eq.2.mp hb35
        try simp only [bo_0, Bool.not_eq_false] at hb35
        refine e_step (pc' := 39) hK rfl rfl rfl ?_
        refine e_ret hK rfl rfl rfl ?_
        have e9 : sp_again W i = (2, 0, W) := by { unfold sp_again; rw [egl]; (repeat (first | rw [if_pos (by omega)] | rw [if_neg (by omega)])) }
        rw [e9]
        exact ⟨rfl, rfl, v1, rfl, hM1, z1⟩
  · replace hb9 := cq_ne.2.mp hb9
    try simp only [bo_0, Bool.not_eq_false] at hb9
    simp only [Bool.and_eq_false_iff, decide_eq_false_iff_not] at hb9
    refine e_step (pc' := 13) hK rfl rfl rfl ?_
    refine e_goto (t := 32) hK rfl (by decide) ?_
    refine e_cQV2 (z := 110) hK rfl rfl (by first | (simp (disch := omega) only [mH_t64, mH_r1, mH_r3, mH_r4, mH_r5, mH_r6, mH_r8, mH_r9, mH_r10, mH_r11, mH_r12, mH_r14, mH_i0, mH_i2, mH_i7, mH_i13, mH_i15, mH_t71, mH_t, mH_lr, mH_l65, mH_l69, mH_l70, mH_l71, mH_l72, mH_l73, mH_l74, mH_l75, mH_c, r0]; rfl) | (show _ = 2; assumption) | (show _ = 1; assumption) | (show _ = 0; assumption) | (show _ = 3; assumption) | (show _ = 4; assumption)) rfl (Nat.le_of_ble_eq_true rfl) (Nat.le_of_ble_eq_true rfl) (m_refP 1 (by omega)) ?_
    rintro _ _ _ ⟨rfl, rfl, rfl⟩
    refine ⟨by show (0 : Nat) ≠ 4; decide, ?_⟩
    rw [if_neg (by show ¬ (0 : Nat) = 3; decide)]
    try dsimp only
    have hM1 := hM0.rf 1
    obtain ⟨v1, hv1⟩ : ∃ v1, v1 = gu v 264 (mv_up (v 264) 0 1) := ⟨_, rfl⟩
    rw [← hv1] at hM1 ⊢
    have z1 : v1 264 0 = 1 := by { rw [hv1, gu_s, up_s] }
    have eo1 : ∀ b : Int, b ≠ 264 → v1 b = v b := fun b hb => by { rw [hv1]; exact gu_n hb }
    have ef1 : ∀ k : Int, k ≠ 0 → v1 264 k = v 264 k := fun k hk => by { rw [hv1, gu_s, up_n hk] }
    have hR1 := hM1.2.1
    have ra1 := hR1.1
    have rb1 := hR1.2.1
    clear hv1
    show mv_Ev _ _ 35 _ _ _ _ _
    refine e_if (t := 40) (pc' := 38) hK rfl (by first | omega | exact bo_i _) (by decide) rfl (fun hb35 => ?_) (fun hb35 => ?_)
    · replace hb35 := cq_eq.1.mp hb35
      try simp only [bo_0, Bool.not_eq_false] at hb35
      exfalso; first | omega | exact absurd trivial (by assumption) | (first | omega | exact bo_i _)
    · replace hb35 := cq_eq.2.mp hb35
      try simp only [bo_0, Bool.not_eq_false] at hb35
      refine e_step (pc' := 39) hK rfl rfl rfl ?_
      refine e_ret hK rfl rfl rfl ?_
      have e9 : sp_again W i = (1, 0, W) := by { unfold sp_again; (repeat (first | rw [if_pos (by omega)] | rw [if_neg (by omega)])) }
      rw [e9]
      exact ⟨rfl, rfl, v1, rfl, hM1, z1⟩
set_option maxRecDepth 10000 in
theorem g_open {W : wt} (hM : MdA v W) (t : Int) (ht : mv_i t) (q : Int) (hq : mv_i q) : mv_Cl sc q_Mod_open [(2, 264), (0, t), (0, q)] c (mH h v) (fun r c' h' => r = (0, (sp_open W t q).2.1) ∧ c' = c ∧ ∃ w, h' = mH h w ∧ MdA w (sp_open W t q).2.2 ∧ w 264 0 = (sp_open W t q).1) := by
  have hM0 := hM
  obtain ⟨hTx, hR, ⟨hI, bn, bT⟩, hH, hz, hSv⟩ := hM
  have r0 := hR.1
  have r1 := hR.2.1
  show mv_Ev sc 165 0 [(2, 264), (0, t), (0, q)] [] c (mH h v) _
  have hK : (mv_m 165).1 = kc_Mod_open := rfl
  refine e_step (pc' := 1) hK rfl rfl rfl ?_
  refine e_step (pc' := 2) hK rfl rfl rfl ?_
  refine e_getR (ci := 4) (k := 3) (pc' := 5) hK rfl (by simp (disch := omega) only [mH_t64, mH_r1, mH_r3, mH_r4, mH_r5, mH_r6, mH_r8, mH_r9, mH_r10, mH_r11, mH_r12, mH_r14, mH_i0, mH_i2, mH_i7, mH_i13, mH_i15, mH_t71, mH_t, mH_lr, mH_l65, mH_l69, mH_l70, mH_l71, mH_l72, mH_l73, mH_l74, mH_l75, mH_c]) rfl rfl (by decide) (by decide) (by (try simp (disch := omega) only [mH_t64, mH_r1, mH_r3, mH_r4, mH_r5, mH_r6, mH_r8, mH_r9, mH_r10, mH_r11, mH_r12, mH_r14, mH_i0, mH_i2, mH_i7, mH_i13, mH_i15, mH_t71, mH_t, mH_lr, mH_l65, mH_l69, mH_l70, mH_l71, mH_l72, mH_l73, mH_l74, mH_l75, mH_c]); first | omega | exact bo_i _) rfl ?_
  try simp (disch := omega) only [mH_t64, mH_r1, mH_r3, mH_r4, mH_r5, mH_r6, mH_r8, mH_r9, mH_r10, mH_r11, mH_r12, mH_r14, mH_i0, mH_i2, mH_i7, mH_i13, mH_i15, mH_t71, mH_t, mH_lr, mH_l65, mH_l69, mH_l70, mH_l71, mH_l72, mH_l73, mH_l74, mH_l75, mH_c]
  refine e_step (pc' := 6) hK rfl rfl rfl ?_
  refine e_step (pc' := 7) hK rfl rfl rfl ?_
  refine e_cRS3 (z := 141) (pc' := 10) hK rfl rfl rfl (Nat.le_of_ble_eq_true rfl) (Nat.le_of_ble_eq_true rfl) (m_isPiece 266 (by omega) hR hI t q ht hq) (by decide) rfl ?_
  try simp (disch := omega) only [mH_t64, mH_r1, mH_r3, mH_r4, mH_r5, mH_r6, mH_r8, mH_r9, mH_r10, mH_r11, mH_r12, mH_r14, mH_i0, mH_i2, mH_i7, mH_i13, mH_i15, mH_t71, mH_t, mH_lr, mH_l65, mH_l69, mH_l70, mH_l71, mH_l72, mH_l73, mH_l74, mH_l75, mH_c]
  refine e_if (t := 17) (pc' := 13) hK rfl (by first | omega | exact bo_i _) (by decide) rfl (fun hb10 => ?_) (fun hb10 => ?_)
  · replace hb10 := cq_ne.1.mp hb10
    try simp only [bo_0, Bool.not_eq_false] at hb10
    have tb : 0 ≤ t ∧ t < gT (wA W) ∧ 0 ≤ q ∧ q < xn (gs (wA W) t) := of_decide_eq_true hb10
    have xb := xn_b (gSok hI tb.1 tb.2.1)
    have rk := (hR.2.2.2 t tb.1 tb.2.1).2 q tb.2.2.1 (by rw [← gs_S tb.1 tb.2.1]; exact tb.2.2.2)
    have kb := gk_i hI tb.1 tb.2.1 tb.2.2.1 tb.2.2.2
    refine e_step (pc' := 18) hK rfl rfl rfl ?_
    refine e_getR (ci := 4) (k := 3) (pc' := 21) hK rfl (by simp (disch := omega) only [mH_t64, mH_r1, mH_r3, mH_r4, mH_r5, mH_r6, mH_r8, mH_r9, mH_r10, mH_r11, mH_r12, mH_r14, mH_i0, mH_i2, mH_i7, mH_i13, mH_i15, mH_t71, mH_t, mH_lr, mH_l65, mH_l69, mH_l70, mH_l71, mH_l72, mH_l73, mH_l74, mH_l75, mH_c, rk]) rfl rfl (by decide) (by decide) (by (try simp (disch := omega) only [mH_t64, mH_r1, mH_r3, mH_r4, mH_r5, mH_r6, mH_r8, mH_r9, mH_r10, mH_r11, mH_r12, mH_r14, mH_i0, mH_i2, mH_i7, mH_i13, mH_i15, mH_t71, mH_t, mH_lr, mH_l65, mH_l69, mH_l70, mH_l71, mH_l72, mH_l73, mH_l74, mH_l75, mH_c, rk]); first | omega | exact bo_i _) rfl ?_
    try simp (disch := omega) only [mH_t64, mH_r1, mH_r3, mH_r4, mH_r5, mH_r6, mH_r8, mH_r9, mH_r10, mH_r11, mH_r12, mH_r14, mH_i0, mH_i2, mH_i7, mH_i13, mH_i15, mH_t71, mH_t, mH_lr, mH_l65, mH_l69, mH_l70, mH_l71, mH_l72, mH_l73, mH_l74, mH_l75, mH_c, rk]
    refine e_step (pc' := 22) hK rfl rfl rfl ?_
    refine e_step (pc' := 23) hK rfl rfl rfl ?_
    refine e_cRS3 (z := 120) (pc' := 26) hK rfl rfl rfl (Nat.le_of_ble_eq_true rfl) (Nat.le_of_ble_eq_true rfl) (m_kindOf 266 (by omega) t q (by omega) (by omega)) (by decide) rfl ?_
    try simp (disch := omega) only [mH_t64, mH_r1, mH_r3, mH_r4, mH_r5, mH_r6, mH_r8, mH_r9, mH_r10, mH_r11, mH_r12, mH_r14, mH_i0, mH_i2, mH_i7, mH_i13, mH_i15, mH_t71, mH_t, mH_lr, mH_l65, mH_l69, mH_l70, mH_l71, mH_l72, mH_l73, mH_l74, mH_l75, mH_c, rk]
    refine e_if (t := 33) (pc' := 29) hK rfl (by first | omega | exact bo_i _) (by decide) rfl (fun hb26 => ?_) (fun hb26 => ?_)
    · replace hb26 := cq_ne.1.mp hb26
      try simp only [bo_0, Bool.not_eq_false] at hb26
      refine e_step (pc' := 34) hK rfl rfl rfl ?_
      refine e_cQV2 (z := 110) hK rfl rfl (by first | (simp (disch := omega) only [mH_t64, mH_r1, mH_r3, mH_r4, mH_r5, mH_r6, mH_r8, mH_r9, mH_r10, mH_r11, mH_r12, mH_r14, mH_i0, mH_i2, mH_i7, mH_i13, mH_i15, mH_t71, mH_t, mH_lr, mH_l65, mH_l69, mH_l70, mH_l71, mH_l72, mH_l73, mH_l74, mH_l75, mH_c, rk]; rfl) | (show _ = 2; assumption) | (show _ = 1; assumption) | (show _ = 0; assumption) | (show _ = 3; assumption) | (show _ = 4; assumption)) rfl (Nat.le_of_ble_eq_true rfl) (Nat.le_of_ble_eq_true rfl) (m_refP 2 (by omega)) ?_
      rintro _ _ _ ⟨rfl, rfl, rfl⟩
      refine ⟨by show (0 : Nat) ≠ 4; decide, ?_⟩
      rw [if_neg (by show ¬ (0 : Nat) = 3; decide)]
      try dsimp only
      have hM1 := hM0.rf 2
      obtain ⟨v1, hv1⟩ : ∃ v1, v1 = gu v 264 (mv_up (v 264) 0 2) := ⟨_, rfl⟩
      rw [← hv1] at hM1 ⊢
      have z1 : v1 264 0 = 2 := by { rw [hv1, gu_s, up_s] }
      have eo1 : ∀ b : Int, b ≠ 264 → v1 b = v b := fun b hb => by { rw [hv1]; exact gu_n hb }
      have ef1 : ∀ k : Int, k ≠ 0 → v1 264 k = v 264 k := fun k hk => by { rw [hv1, gu_s, up_n hk] }
      have hR1 := hM1.2.1
      have ra1 := hR1.1
      have rb1 := hR1.2.1
      clear hv1
      show mv_Ev _ _ 37 _ _ _ _ _
      refine e_if (t := 42) (pc' := 40) hK rfl (by first | omega | exact bo_i _) (by decide) rfl (fun hb37 => ?_) (fun hb37 => ?_)
      · replace hb37 := cq_eq.1.mp hb37
        try simp only [bo_0, Bool.not_eq_false] at hb37
        exfalso; first | omega | exact absurd trivial (by assumption) | (first | omega | exact bo_i _)
      · replace hb37 := cq_eq.2.mp hb37
        try simp only [bo_0, Bool.not_eq_false] at hb37
        refine e_step (pc' := 41) hK rfl rfl rfl ?_
        refine e_ret hK rfl rfl rfl ?_
        have e9 : sp_open W t q = (2, 0, W) := by { unfold sp_open; (repeat (first | rw [if_pos (by omega)] | rw [if_neg (by omega)])) }
        rw [e9]
        exact ⟨rfl, rfl, v1, rfl, hM1, z1⟩
    · replace hb26 := cq_ne.2.mp hb26
      try simp only [bo_0, Bool.not_eq_false] at hb26
      refine e_step (pc' := 30) hK rfl rfl rfl ?_
      refine e_goto (t := 34) hK rfl (by decide) ?_
      refine e_cQV2 (z := 110) hK rfl rfl (by first | (simp (disch := omega) only [mH_t64, mH_r1, mH_r3, mH_r4, mH_r5, mH_r6, mH_r8, mH_r9, mH_r10, mH_r11, mH_r12, mH_r14, mH_i0, mH_i2, mH_i7, mH_i13, mH_i15, mH_t71, mH_t, mH_lr, mH_l65, mH_l69, mH_l70, mH_l71, mH_l72, mH_l73, mH_l74, mH_l75, mH_c, rk]; rfl) | (show _ = 2; assumption) | (show _ = 1; assumption) | (show _ = 0; assumption) | (show _ = 3; assumption) | (show _ = 4; assumption)) rfl (Nat.le_of_ble_eq_true rfl) (Nat.le_of_ble_eq_true rfl) (m_ref0) ?_
      rintro _ _ _ ⟨rfl, rfl, rfl⟩
      refine ⟨by show (0 : Nat) ≠ 4; decide, ?_⟩
      rw [if_neg (by show ¬ (0 : Nat) = 3; decide)]
      try dsimp only
      have hM1 := hM0.rf 0
      obtain ⟨v1, hv1⟩ : ∃ v1, v1 = gu v 264 (mv_up (v 264) 0 0) := ⟨_, rfl⟩
      rw [← hv1] at hM1 ⊢
      have z1 : v1 264 0 = 0 := by { rw [hv1, gu_s, up_s] }
      have eo1 : ∀ b : Int, b ≠ 264 → v1 b = v b := fun b hb => by { rw [hv1]; exact gu_n hb }
      have ef1 : ∀ k : Int, k ≠ 0 → v1 264 k = v 264 k := fun k hk => by { rw [hv1, gu_s, up_n hk] }
      have hR1 := hM1.2.1
      have ra1 := hR1.1
      have rb1 := hR1.2.1
      clear hv1
      show mv_Ev _ _ 37 _ _ _ _ _
      refine e_if (t := 42) (pc' := 40) hK rfl (by first | omega | exact bo_i _) (by decide) rfl (fun hb37 => ?_) (fun hb37 => ?_)
      · replace hb37 := cq_eq.1.mp hb37
        try simp only [bo_0, Bool.not_eq_false] at hb37
        refine e_step (pc' := 43) hK rfl rfl rfl ?_
        refine e_cQV1 (z := 150) hK rfl rfl (by first | (simp (disch := omega) only [mH_t64, mH_r1, mH_r3, mH_r4, mH_r5, mH_r6, mH_r8, mH_r9, mH_r10, mH_r11, mH_r12, mH_r14, mH_i0, mH_i2, mH_i7, mH_i13, mH_i15, mH_t71, mH_t, mH_lr, mH_l65, mH_l69, mH_l70, mH_l71, mH_l72, mH_l73, mH_l74, mH_l75, mH_c, rk, ra1, rb1]; rfl) | (show _ = 2; assumption) | (show _ = 1; assumption) | (show _ = 0; assumption) | (show _ = 3; assumption) | (show _ = 4; assumption)) rfl (Nat.le_of_ble_eq_true rfl) (Nat.le_of_ble_eq_true rfl) (m_remember hM1.2.2.2.1 hM1.2.1 hI) ?_
        rintro _ _ _ ⟨rfl, rfl, y, rfl, hy, hy4, hyH⟩
        refine ⟨by decide, ?_⟩
        rw [if_pos rfl]
        try dsimp only
        have ey : y 266 = v1 266 := hy 266 (by omega) (by omega)
        have hRy : Rw (y 266) (wA W) := by { rw [ey]; exact hM1.2.1 }
        have ry0 := hRy.1
        have ry1 := hRy.2.1
        show mv_Ev _ _ 46 _ _ _ _ _
        refine e_step (pc' := 47) hK rfl rfl rfl ?_
        refine e_getR (ci := 4) (k := 3) (pc' := 50) hK rfl (by simp (disch := omega) only [mH_t64, mH_r1, mH_r3, mH_r4, mH_r5, mH_r6, mH_r8, mH_r9, mH_r10, mH_r11, mH_r12, mH_r14, mH_i0, mH_i2, mH_i7, mH_i13, mH_i15, mH_t71, mH_t, mH_lr, mH_l65, mH_l69, mH_l70, mH_l71, mH_l72, mH_l73, mH_l74, mH_l75, mH_c, rk, ra1, rb1, ry0, ry1]) rfl rfl (by decide) (by decide) (by (try simp (disch := omega) only [mH_t64, mH_r1, mH_r3, mH_r4, mH_r5, mH_r6, mH_r8, mH_r9, mH_r10, mH_r11, mH_r12, mH_r14, mH_i0, mH_i2, mH_i7, mH_i13, mH_i15, mH_t71, mH_t, mH_lr, mH_l65, mH_l69, mH_l70, mH_l71, mH_l72, mH_l73, mH_l74, mH_l75, mH_c, rk, ra1, rb1, ry0, ry1]); first | omega | exact bo_i _) rfl ?_
        try simp (disch := omega) only [mH_t64, mH_r1, mH_r3, mH_r4, mH_r5, mH_r6, mH_r8, mH_r9, mH_r10, mH_r11, mH_r12, mH_r14, mH_i0, mH_i2, mH_i7, mH_i13, mH_i15, mH_t71, mH_t, mH_lr, mH_l65, mH_l69, mH_l70, mH_l71, mH_l72, mH_l73, mH_l74, mH_l75, mH_c, rk, ra1, rb1, ry0, ry1]
        refine e_step (pc' := 51) hK rfl rfl rfl ?_
        refine e_cRS1 (z := 119) (pc' := 54) hK rfl rfl rfl (Nat.le_of_ble_eq_true rfl) (Nat.le_of_ble_eq_true rfl) (m_tempAt t) (by decide) rfl ?_
        try simp (disch := omega) only [mH_t64, mH_r1, mH_r3, mH_r4, mH_r5, mH_r6, mH_r8, mH_r9, mH_r10, mH_r11, mH_r12, mH_r14, mH_i0, mH_i2, mH_i7, mH_i13, mH_i15, mH_t71, mH_t, mH_lr, mH_l65, mH_l69, mH_l70, mH_l71, mH_l72, mH_l73, mH_l74, mH_l75, mH_c, rk, ra1, rb1, ry0, ry1]
        refine e_step (pc' := 55) hK rfl rfl rfl ?_
        refine e_step (pc' := 56) hK rfl rfl rfl ?_
        refine e_step (pc' := 57) hK rfl rfl rfl ?_
        refine e_step (pc' := 58) hK rfl rfl rfl ?_
        refine e_step (pc' := 59) hK rfl rfl rfl ?_
        refine e_iast (pc' := 60) hK rfl (by simp (disch := omega) only [mH_t64, mH_r1, mH_r3, mH_r4, mH_r5, mH_r6, mH_r8, mH_r9, mH_r10, mH_r11, mH_r12, mH_r14, mH_i0, mH_i2, mH_i7, mH_i13, mH_i15, mH_t71, mH_t, mH_lr, mH_l65, mH_l69, mH_l70, mH_l71, mH_l72, mH_l73, mH_l74, mH_l75, mH_c, rk, ra1, rb1, ry0, ry1]) (by first | omega | exact bo_i _) (by (try simp (disch := omega) only [mH_t64, mH_r1, mH_r3, mH_r4, mH_r5, mH_r6, mH_r8, mH_r9, mH_r10, mH_r11, mH_r12, mH_r14, mH_i0, mH_i2, mH_i7, mH_i13, mH_i15, mH_t71, mH_t, mH_lr, mH_l65, mH_l69, mH_l70, mH_l71, mH_l72, mH_l73, mH_l74, mH_l75, mH_c, rk, ra1, rb1, ry0, ry1]); first | omega | exact bo_i _) rfl ?_
        simp (disch := omega) only [mW_0, mW_2, mW_7, mW_13, mW_15, mW_a, gu_s]
        have hk0 : gk (wA W) t q = 0 := by omega
        have hRo : Rw (gu y 266 (mv_up (y 266) (1052 + 13 * t + 1 + q) 4) 266) (gopen (wA W) t q) := by { rw [gu_s]; exact Rw_open hRy hI tb.1 tb.2.1 tb.2.2.1 tb.2.2.2 up_s (fun r hr => up_n hr) }
        refine e_step (pc' := 61) hK rfl rfl rfl ?_
        refine e_step (pc' := 62) hK rfl rfl rfl ?_
        refine e_getR (ci := 4) (k := 3) (pc' := 65) hK rfl (by simp (disch := omega) only [mH_t64, mH_r1, mH_r3, mH_r4, mH_r5, mH_r6, mH_r8, mH_r9, mH_r10, mH_r11, mH_r12, mH_r14, mH_i0, mH_i2, mH_i7, mH_i13, mH_i15, mH_t71, mH_t, mH_lr, mH_l65, mH_l69, mH_l70, mH_l71, mH_l72, mH_l73, mH_l74, mH_l75, mH_c, rk, ra1, rb1, ry0, ry1]) rfl rfl (by decide) (by decide) (by (try simp (disch := omega) only [mH_t64, mH_r1, mH_r3, mH_r4, mH_r5, mH_r6, mH_r8, mH_r9, mH_r10, mH_r11, mH_r12, mH_r14, mH_i0, mH_i2, mH_i7, mH_i13, mH_i15, mH_t71, mH_t, mH_lr, mH_l65, mH_l69, mH_l70, mH_l71, mH_l72, mH_l73, mH_l74, mH_l75, mH_c, rk, ra1, rb1, ry0, ry1]); first | omega | exact bo_i _) rfl ?_
        try simp (disch := omega) only [mH_t64, mH_r1, mH_r3, mH_r4, mH_r5, mH_r6, mH_r8, mH_r9, mH_r10, mH_r11, mH_r12, mH_r14, mH_i0, mH_i2, mH_i7, mH_i13, mH_i15, mH_t71, mH_t, mH_lr, mH_l65, mH_l69, mH_l70, mH_l71, mH_l72, mH_l73, mH_l74, mH_l75, mH_c, rk, ra1, rb1, ry0, ry1]
        refine e_step (pc' := 66) hK rfl rfl rfl ?_
        refine e_cQV3 (z := 128) hK rfl rfl (by first | (simp (disch := omega) only [mH_t64, mH_r1, mH_r3, mH_r4, mH_r5, mH_r6, mH_r8, mH_r9, mH_r10, mH_r11, mH_r12, mH_r14, mH_i0, mH_i2, mH_i7, mH_i13, mH_i15, mH_t71, mH_t, mH_lr, mH_l65, mH_l69, mH_l70, mH_l71, mH_l72, mH_l73, mH_l74, mH_l75, mH_c, rk, ra1, rb1, ry0, ry1]; rfl) | (show _ = 2; assumption) | (show _ = 1; assumption) | (show _ = 0; assumption) | (show _ = 3; assumption) | (show _ = 4; assumption)) rfl (Nat.le_of_ble_eq_true rfl) (Nat.le_of_ble_eq_true rfl) (m_costTemp 266 (by omega) hRo (sz_open ⟨hI, bn, bT⟩ tb.1 tb.2.1 tb.2.2.1 tb.2.2.2 hk0).1 t tb.1 (by rw [gop_same.2.1]; exact tb.2.1)) ?_
        rintro _ _ _ ⟨rfl, rfl, w, rfl, hw⟩
        refine ⟨by show (0 : Nat) ≠ 4; decide, ?_⟩
        rw [if_neg (by show ¬ (0 : Nat) = 3; decide)]
        try dsimp only
        show mv_Ev _ _ 69 _ _ _ _ _
        refine e_ret hK rfl rfl rfl ?_
        have hu : mo 266 y w := fun b n1 n2 n3 n4 => (hw b n1 n2 n3).trans (gu_n n4)
        have ru : Rw (w 266) (gopen (wA W) t q) := by { rw [hw 266 (by omega) (by omega) (by omega)]; exact hRo }
        have e9 : sp_open W t q = (0, cot (gopen (wA W) t q) t, w_R W (gopen (wA W) t q)) := by { unfold sp_open; (repeat (first | rw [if_pos (by omega)] | rw [if_neg (by omega)])) }
        rw [e9]
        exact ⟨rfl, rfl, w, rfl, hM1.act hy hy4 hyH hu ru (sz_open ⟨hI, bn, bT⟩ tb.1 tb.2.1 tb.2.2.1 tb.2.2.2 hk0), ((congrFun (hu 264 (by omega) (by omega) (by omega) (by omega)) 0).trans ((hy4 0 (by omega)).trans z1))⟩
      · replace hb37 := cq_eq.2.mp hb37
        try simp only [bo_0, Bool.not_eq_false] at hb37
        exfalso; first | omega | exact absurd trivial (by assumption) | (first | omega | exact bo_i _)
  · replace hb10 := cq_ne.2.mp hb10
    try simp only [bo_0, Bool.not_eq_false] at hb10
    have hb10 := of_decide_eq_false hb10
    refine e_step (pc' := 14) hK rfl rfl rfl ?_
    refine e_goto (t := 34) hK rfl (by decide) ?_
    refine e_cQV2 (z := 110) hK rfl rfl (by first | (simp (disch := omega) only [mH_t64, mH_r1, mH_r3, mH_r4, mH_r5, mH_r6, mH_r8, mH_r9, mH_r10, mH_r11, mH_r12, mH_r14, mH_i0, mH_i2, mH_i7, mH_i13, mH_i15, mH_t71, mH_t, mH_lr, mH_l65, mH_l69, mH_l70, mH_l71, mH_l72, mH_l73, mH_l74, mH_l75, mH_c]; rfl) | (show _ = 2; assumption) | (show _ = 1; assumption) | (show _ = 0; assumption) | (show _ = 3; assumption) | (show _ = 4; assumption)) rfl (Nat.le_of_ble_eq_true rfl) (Nat.le_of_ble_eq_true rfl) (m_refP 1 (by omega)) ?_
    rintro _ _ _ ⟨rfl, rfl, rfl⟩
    refine ⟨by show (0 : Nat) ≠ 4; decide, ?_⟩
    rw [if_neg (by show ¬ (0 : Nat) = 3; decide)]
    try dsimp only
    have hM1 := hM0.rf 1
    obtain ⟨v1, hv1⟩ : ∃ v1, v1 = gu v 264 (mv_up (v 264) 0 1) := ⟨_, rfl⟩
    rw [← hv1] at hM1 ⊢
    have z1 : v1 264 0 = 1 := by { rw [hv1, gu_s, up_s] }
    have eo1 : ∀ b : Int, b ≠ 264 → v1 b = v b := fun b hb => by { rw [hv1]; exact gu_n hb }
    have ef1 : ∀ k : Int, k ≠ 0 → v1 264 k = v 264 k := fun k hk => by { rw [hv1, gu_s, up_n hk] }
    have hR1 := hM1.2.1
    have ra1 := hR1.1
    have rb1 := hR1.2.1
    clear hv1
    show mv_Ev _ _ 37 _ _ _ _ _
    refine e_if (t := 42) (pc' := 40) hK rfl (by first | omega | exact bo_i _) (by decide) rfl (fun hb37 => ?_) (fun hb37 => ?_)
    · replace hb37 := cq_eq.1.mp hb37
      try simp only [bo_0, Bool.not_eq_false] at hb37
      exfalso; first | omega | exact absurd trivial (by assumption) | (first | omega | exact bo_i _)
    · replace hb37 := cq_eq.2.mp hb37
      try simp only [bo_0, Bool.not_eq_false] at hb37
      refine e_step (pc' := 41) hK rfl rfl rfl ?_
      refine e_ret hK rfl rfl rfl ?_
      have e9 : sp_open W t q = (1, 0, W) := by { unfold sp_open; (repeat (first | rw [if_pos (by omega)] | rw [if_neg (by omega)])) }
      rw [e9]
      exact ⟨rfl, rfl, v1, rfl, hM1, z1⟩
set_option maxRecDepth 10000 in
theorem g_forget {W : wt} (hM : MdA v W) : mv_Cl sc q_Mod_forget [(2, 264)] c (mH h v) (fun r c' h' => r = (0, (sp_forget W).2.1) ∧ c' = c ∧ ∃ w, h' = mH h w ∧ MdA w (sp_forget W).2.2 ∧ w 264 0 = (sp_forget W).1) := by
  have hM0 := hM
  obtain ⟨hTx, hR, ⟨hI, bn, bT⟩, hH, hz, hSv⟩ := hM
  have r0 := hR.1
  have r1 := hR.2.1
  show mv_Ev sc 166 0 [(2, 264)] [] c (mH h v) _
  have hK : (mv_m 166).1 = kc_Mod_forget := rfl
  refine e_step (pc' := 1) hK rfl rfl rfl ?_
  refine e_step (pc' := 2) hK rfl rfl rfl ?_
  refine e_step (pc' := 3) hK rfl rfl rfl ?_
  refine e_getR (ci := 4) (k := 3) (pc' := 6) hK rfl (by simp (disch := omega) only [mH_t64, mH_r1, mH_r3, mH_r4, mH_r5, mH_r6, mH_r8, mH_r9, mH_r10, mH_r11, mH_r12, mH_r14, mH_i0, mH_i2, mH_i7, mH_i13, mH_i15, mH_t71, mH_t, mH_lr, mH_l65, mH_l69, mH_l70, mH_l71, mH_l72, mH_l73, mH_l74, mH_l75, mH_c]) rfl rfl (by decide) (by decide) (by (try simp (disch := omega) only [mH_t64, mH_r1, mH_r3, mH_r4, mH_r5, mH_r6, mH_r8, mH_r9, mH_r10, mH_r11, mH_r12, mH_r14, mH_i0, mH_i2, mH_i7, mH_i13, mH_i15, mH_t71, mH_t, mH_lr, mH_l65, mH_l69, mH_l70, mH_l71, mH_l72, mH_l73, mH_l74, mH_l75, mH_c]); first | omega | exact bo_i _) rfl ?_
  try simp (disch := omega) only [mH_t64, mH_r1, mH_r3, mH_r4, mH_r5, mH_r6, mH_r8, mH_r9, mH_r10, mH_r11, mH_r12, mH_r14, mH_i0, mH_i2, mH_i7, mH_i13, mH_i15, mH_t71, mH_t, mH_lr, mH_l65, mH_l69, mH_l70, mH_l71, mH_l72, mH_l73, mH_l74, mH_l75, mH_c]
  refine e_cQV2 (z := 167) hK rfl rfl (by first | (simp (disch := omega) only [mH_t64, mH_r1, mH_r3, mH_r4, mH_r5, mH_r6, mH_r8, mH_r9, mH_r10, mH_r11, mH_r12, mH_r14, mH_i0, mH_i2, mH_i7, mH_i13, mH_i15, mH_t71, mH_t, mH_lr, mH_l65, mH_l69, mH_l70, mH_l71, mH_l72, mH_l73, mH_l74, mH_l75, mH_c]; rfl) | (show _ = 2; assumption) | (show _ = 1; assumption) | (show _ = 0; assumption) | (show _ = 3; assumption) | (show _ = 4; assumption)) rfl (Nat.le_of_ble_eq_true rfl) (Nat.le_of_ble_eq_true rfl) (m_anew 266 (by omega) hR hI bn) ?_
  rintro _ _ _ ⟨rfl, rfl, a, rfl, ha, hra⟩
  refine ⟨by show (0 : Nat) ≠ 4; decide, ?_⟩
  rw [if_neg (by show ¬ (0 : Nat) = 3; decide)]
  try dsimp only
  have hMa : MdA a W := hM0.kq (fun b hb => ha b (by omega) (by omega) (by omega) (by omega)) (congrFun (ha 264 (by omega) (by omega) (by omega) (by omega)) 2) (congrFun (ha 264 (by omega) (by omega) (by omega) (by omega)) 7)
  show mv_Ev _ _ 9 _ _ _ _ _
  refine e_if (t := 16) (pc' := 12) hK rfl (by first | omega | exact bo_i _) (by decide) rfl (fun hb9 => ?_) (fun hb9 => ?_)
  · replace hb9 := cq_eq.1.mp hb9
    try simp only [bo_0, Bool.not_eq_false] at hb9
    refine e_step (pc' := 17) hK rfl rfl rfl ?_
    refine e_cQV2 (z := 110) hK rfl rfl (by first | (simp (disch := omega) only [mH_t64, mH_r1, mH_r3, mH_r4, mH_r5, mH_r6, mH_r8, mH_r9, mH_r10, mH_r11, mH_r12, mH_r14, mH_i0, mH_i2, mH_i7, mH_i13, mH_i15, mH_t71, mH_t, mH_lr, mH_l65, mH_l69, mH_l70, mH_l71, mH_l72, mH_l73, mH_l74, mH_l75, mH_c]; rfl) | (show _ = 2; assumption) | (show _ = 1; assumption) | (show _ = 0; assumption) | (show _ = 3; assumption) | (show _ = 4; assumption)) rfl (Nat.le_of_ble_eq_true rfl) (Nat.le_of_ble_eq_true rfl) (m_refP 1 (by omega)) ?_
    rintro _ _ _ ⟨rfl, rfl, rfl⟩
    refine ⟨by show (0 : Nat) ≠ 4; decide, ?_⟩
    rw [if_neg (by show ¬ (0 : Nat) = 3; decide)]
    try dsimp only
    have hM1 := hMa.rf 1
    obtain ⟨v1, hv1⟩ : ∃ v1, v1 = gu a 264 (mv_up (a 264) 0 1) := ⟨_, rfl⟩
    rw [← hv1] at hM1 ⊢
    have z1 : v1 264 0 = 1 := by { rw [hv1, gu_s, up_s] }
    have eo1 : ∀ b : Int, b ≠ 264 → v1 b = a b := fun b hb => by { rw [hv1]; exact gu_n hb }
    have ef1 : ∀ k : Int, k ≠ 0 → v1 264 k = a 264 k := fun k hk => by { rw [hv1, gu_s, up_n hk] }
    have hR1 := hM1.2.1
    have ra1 := hR1.1
    have rb1 := hR1.2.1
    clear hv1
    show mv_Ev _ _ 20 _ _ _ _ _
    refine e_if (t := 25) (pc' := 23) hK rfl (by first | omega | exact bo_i _) (by decide) rfl (fun hb20 => ?_) (fun hb20 => ?_)
    · replace hb20 := cq_eq.1.mp hb20
      try simp only [bo_0, Bool.not_eq_false] at hb20
      exfalso; first | omega | exact absurd trivial (by assumption) | (first | omega | exact bo_i _)
    · replace hb20 := cq_eq.2.mp hb20
      try simp only [bo_0, Bool.not_eq_false] at hb20
      refine e_step (pc' := 24) hK rfl rfl rfl ?_
      refine e_ret hK rfl rfl rfl ?_
      have e9 : sp_forget W = (1, 0, W) := by { unfold sp_forget; rw [if_neg (by rw [hb9]; decide)] }
      rw [e9]
      exact ⟨rfl, rfl, v1, rfl, hM1, z1⟩
  · replace hb9 := cq_eq.2.mp hb9
    try simp only [bo_0, Bool.not_eq_false] at hb9
    refine e_step (pc' := 13) hK rfl rfl rfl ?_
    refine e_goto (t := 17) hK rfl (by decide) ?_
    refine e_cQV2 (z := 110) hK rfl rfl (by first | (simp (disch := omega) only [mH_t64, mH_r1, mH_r3, mH_r4, mH_r5, mH_r6, mH_r8, mH_r9, mH_r10, mH_r11, mH_r12, mH_r14, mH_i0, mH_i2, mH_i7, mH_i13, mH_i15, mH_t71, mH_t, mH_lr, mH_l65, mH_l69, mH_l70, mH_l71, mH_l72, mH_l73, mH_l74, mH_l75, mH_c]; rfl) | (show _ = 2; assumption) | (show _ = 1; assumption) | (show _ = 0; assumption) | (show _ = 3; assumption) | (show _ = 4; assumption)) rfl (Nat.le_of_ble_eq_true rfl) (Nat.le_of_ble_eq_true rfl) (m_ref0) ?_
    rintro _ _ _ ⟨rfl, rfl, rfl⟩
    refine ⟨by show (0 : Nat) ≠ 4; decide, ?_⟩
    rw [if_neg (by show ¬ (0 : Nat) = 3; decide)]
    try dsimp only
    have hM1 := hMa.rf 0
    obtain ⟨v1, hv1⟩ : ∃ v1, v1 = gu a 264 (mv_up (a 264) 0 0) := ⟨_, rfl⟩
    rw [← hv1] at hM1 ⊢
    have z1 : v1 264 0 = 0 := by { rw [hv1, gu_s, up_s] }
    have eo1 : ∀ b : Int, b ≠ 264 → v1 b = a b := fun b hb => by { rw [hv1]; exact gu_n hb }
    have ef1 : ∀ k : Int, k ≠ 0 → v1 264 k = a 264 k := fun k hk => by { rw [hv1, gu_s, up_n hk] }
    have hR1 := hM1.2.1
    have ra1 := hR1.1
    have rb1 := hR1.2.1
    clear hv1
    show mv_Ev _ _ 20 _ _ _ _ _
    refine e_if (t := 25) (pc' := 23) hK rfl (by first | omega | exact bo_i _) (by decide) rfl (fun hb20 => ?_) (fun hb20 => ?_)
    · replace hb20 := cq_eq.1.mp hb20
      try simp only [bo_0, Bool.not_eq_false] at hb20
      refine e_step (pc' := 26) hK rfl rfl rfl ?_
      refine e_cQV1 (z := 150) hK rfl rfl (by first | (simp (disch := omega) only [mH_t64, mH_r1, mH_r3, mH_r4, mH_r5, mH_r6, mH_r8, mH_r9, mH_r10, mH_r11, mH_r12, mH_r14, mH_i0, mH_i2, mH_i7, mH_i13, mH_i15, mH_t71, mH_t, mH_lr, mH_l65, mH_l69, mH_l70, mH_l71, mH_l72, mH_l73, mH_l74, mH_l75, mH_c, ra1, rb1]; rfl) | (show _ = 2; assumption) | (show _ = 1; assumption) | (show _ = 0; assumption) | (show _ = 3; assumption) | (show _ = 4; assumption)) rfl (Nat.le_of_ble_eq_true rfl) (Nat.le_of_ble_eq_true rfl) (m_remember hM1.2.2.2.1 hM1.2.1 hI) ?_
      rintro _ _ _ ⟨rfl, rfl, y, rfl, hy, hy4, hyH⟩
      refine ⟨by decide, ?_⟩
      rw [if_pos rfl]
      try dsimp only
      have ey : y 266 = v1 266 := hy 266 (by omega) (by omega)
      have hRy : Rw (y 266) (wA W) := by { rw [ey]; exact hM1.2.1 }
      have ry0 := hRy.1
      have ry1 := hRy.2.1
      show mv_Ev _ _ 29 _ _ _ _ _
      refine e_step (pc' := 30) hK rfl rfl rfl ?_
      refine e_getR (ci := 4) (k := 5) (pc' := 33) hK rfl (by simp (disch := omega) only [mH_t64, mH_r1, mH_r3, mH_r4, mH_r5, mH_r6, mH_r8, mH_r9, mH_r10, mH_r11, mH_r12, mH_r14, mH_i0, mH_i2, mH_i7, mH_i13, mH_i15, mH_t71, mH_t, mH_lr, mH_l65, mH_l69, mH_l70, mH_l71, mH_l72, mH_l73, mH_l74, mH_l75, mH_c, ra1, rb1, ry0, ry1]) rfl rfl (by decide) (by decide) (by (try simp (disch := omega) only [mH_t64, mH_r1, mH_r3, mH_r4, mH_r5, mH_r6, mH_r8, mH_r9, mH_r10, mH_r11, mH_r12, mH_r14, mH_i0, mH_i2, mH_i7, mH_i13, mH_i15, mH_t71, mH_t, mH_lr, mH_l65, mH_l69, mH_l70, mH_l71, mH_l72, mH_l73, mH_l74, mH_l75, mH_c, ra1, rb1, ry0, ry1]); first | omega | exact bo_i _) rfl ?_
      try simp (disch := omega) only [mH_t64, mH_r1, mH_r3, mH_r4, mH_r5, mH_r6, mH_r8, mH_r9, mH_r10, mH_r11, mH_r12, mH_r14, mH_i0, mH_i2, mH_i7, mH_i13, mH_i15, mH_t71, mH_t, mH_lr, mH_l65, mH_l69, mH_l70, mH_l71, mH_l72, mH_l73, mH_l74, mH_l75, mH_c, ra1, rb1, ry0, ry1]
      refine e_step (pc' := 34) hK rfl rfl rfl ?_
      refine e_step (pc' := 35) hK rfl rfl rfl ?_
      refine e_getR (ci := 4) (k := 3) (pc' := 38) hK rfl (by simp (disch := omega) only [mH_t64, mH_r1, mH_r3, mH_r4, mH_r5, mH_r6, mH_r8, mH_r9, mH_r10, mH_r11, mH_r12, mH_r14, mH_i0, mH_i2, mH_i7, mH_i13, mH_i15, mH_t71, mH_t, mH_lr, mH_l65, mH_l69, mH_l70, mH_l71, mH_l72, mH_l73, mH_l74, mH_l75, mH_c, ra1, rb1, ry0, ry1]) rfl rfl (by decide) (by decide) (by (try simp (disch := omega) only [mH_t64, mH_r1, mH_r3, mH_r4, mH_r5, mH_r6, mH_r8, mH_r9, mH_r10, mH_r11, mH_r12, mH_r14, mH_i0, mH_i2, mH_i7, mH_i13, mH_i15, mH_t71, mH_t, mH_lr, mH_l65, mH_l69, mH_l70, mH_l71, mH_l72, mH_l73, mH_l74, mH_l75, mH_c, ra1, rb1, ry0, ry1]); first | omega | exact bo_i _) rfl ?_
      try simp (disch := omega) only [mH_t64, mH_r1, mH_r3, mH_r4, mH_r5, mH_r6, mH_r8, mH_r9, mH_r10, mH_r11, mH_r12, mH_r14, mH_i0, mH_i2, mH_i7, mH_i13, mH_i15, mH_t71, mH_t, mH_lr, mH_l65, mH_l69, mH_l70, mH_l71, mH_l72, mH_l73, mH_l74, mH_l75, mH_c, ra1, rb1, ry0, ry1]
      refine e_step (pc' := 39) hK rfl rfl rfl ?_
      refine e_cQS4 (z := 151) hK rfl rfl rfl (Nat.le_of_ble_eq_true rfl) (Nat.le_of_ble_eq_true rfl) (m_copyLog 268 0 266 0 (by omega) (by omega) (by omega) (by omega) (by omega) (by show (0 : Int) + 1221 ≤ 1221 ∧ (1221 : Int) ≤ 20000; omega) (by show (0 : Int) + 1221 ≤ 1221 ∧ (1221 : Int) ≤ 20000; omega)) ?_
      rintro _ _ _ ⟨rfl, rfl, u, rfl, hu0, ru9⟩
      refine ⟨by decide, ?_⟩
      rw [if_pos rfl]
      try dsimp only
      have hu := mq_o hu0
      have ru : Rw (u 266) (gtk (wA W) (gn (wA W))).2 := Rw_ext (hra hb9) (sz_gtk ⟨hI, bn, bT⟩).1 (fun q q0 q1 => by { rw [ru9 q, if_pos (by omega), hy 268 (by omega) (by omega), eo1 268 (by omega)]; exact congrArg (a 268) (by omega) })
      have ru1 := ru.2.1
      show mv_Ev _ _ 42 _ _ _ _ _
      refine e_step (pc' := 43) hK rfl rfl rfl ?_
      refine e_getR (ci := 4) (k := 3) (pc' := 46) hK rfl (by simp (disch := omega) only [mH_t64, mH_r1, mH_r3, mH_r4, mH_r5, mH_r6, mH_r8, mH_r9, mH_r10, mH_r11, mH_r12, mH_r14, mH_i0, mH_i2, mH_i7, mH_i13, mH_i15, mH_t71, mH_t, mH_lr, mH_l65, mH_l69, mH_l70, mH_l71, mH_l72, mH_l73, mH_l74, mH_l75, mH_c, ra1, rb1, ry0, ry1, ru1]) rfl rfl (by decide) (by decide) (by (try simp (disch := omega) only [mH_t64, mH_r1, mH_r3, mH_r4, mH_r5, mH_r6, mH_r8, mH_r9, mH_r10, mH_r11, mH_r12, mH_r14, mH_i0, mH_i2, mH_i7, mH_i13, mH_i15, mH_t71, mH_t, mH_lr, mH_l65, mH_l69, mH_l70, mH_l71, mH_l72, mH_l73, mH_l74, mH_l75, mH_c, ra1, rb1, ry0, ry1, ru1]); first | omega | exact bo_i _) rfl ?_
      try simp (disch := omega) only [mH_t64, mH_r1, mH_r3, mH_r4, mH_r5, mH_r6, mH_r8, mH_r9, mH_r10, mH_r11, mH_r12, mH_r14, mH_i0, mH_i2, mH_i7, mH_i13, mH_i15, mH_t71, mH_t, mH_lr, mH_l65, mH_l69, mH_l70, mH_l71, mH_l72, mH_l73, mH_l74, mH_l75, mH_c, ra1, rb1, ry0, ry1, ru1]
      refine e_step (pc' := 47) hK rfl rfl rfl ?_
      refine e_iald (pc' := 48) hK rfl (by simp (disch := omega) only [mH_t64, mH_r1, mH_r3, mH_r4, mH_r5, mH_r6, mH_r8, mH_r9, mH_r10, mH_r11, mH_r12, mH_r14, mH_i0, mH_i2, mH_i7, mH_i13, mH_i15, mH_t71, mH_t, mH_lr, mH_l65, mH_l69, mH_l70, mH_l71, mH_l72, mH_l73, mH_l74, mH_l75, mH_c, ra1, rb1, ry0, ry1, ru1]) (by first | omega | exact bo_i _) (by (try simp (disch := omega) only [mH_t64, mH_r1, mH_r3, mH_r4, mH_r5, mH_r6, mH_r8, mH_r9, mH_r10, mH_r11, mH_r12, mH_r14, mH_i0, mH_i2, mH_i7, mH_i13, mH_i15, mH_t71, mH_t, mH_lr, mH_l65, mH_l69, mH_l70, mH_l71, mH_l72, mH_l73, mH_l74, mH_l75, mH_c, ra1, rb1, ry0, ry1, ru1]); first | omega | exact bo_i _) rfl ?_
      try simp (disch := omega) only [mH_t64, mH_r1, mH_r3, mH_r4, mH_r5, mH_r6, mH_r8, mH_r9, mH_r10, mH_r11, mH_r12, mH_r14, mH_i0, mH_i2, mH_i7, mH_i13, mH_i15, mH_t71, mH_t, mH_lr, mH_l65, mH_l69, mH_l70, mH_l71, mH_l72, mH_l73, mH_l74, mH_l75, mH_c, ra1, rb1, ry0, ry1, ru1]
      refine e_ret hK rfl rfl rfl ?_
      have e9 : sp_forget W = (0, ((gT (gtk (wA W) (gn (wA W))).2 : Nat) : Int), w_R W (gtk (wA W) (gn (wA W))).2) := by { unfold sp_forget; rw [if_pos hb9] }
      rw [e9]
      exact ⟨rfl, rfl, u, rfl, hM1.act hy hy4 hyH hu ru (sz_gtk ⟨hI, bn, bT⟩), ((congrFun (hu 264 (by omega) (by omega) (by omega) (by omega)) 0).trans ((hy4 0 (by omega)).trans z1))⟩
    · replace hb20 := cq_eq.2.mp hb20
      try simp only [bo_0, Bool.not_eq_false] at hb20
      exfalso; first | omega | exact absurd trivial (by assumption) | (first | omega | exact bo_i _)
set_option maxRecDepth 10000 in
theorem g_undo {W : wt} (hM : MdA v W) : mv_Cl sc q_Mod_undo [(2, 264)] c (mH h v) (fun r c' h' => r = (0, (sp_undo W).2.1) ∧ c' = c ∧ ∃ w, h' = mH h w ∧ MdA w (sp_undo W).2.2 ∧ w 264 0 = (sp_undo W).1) := by
  have hM0 := hM
  obtain ⟨hTx, hR, ⟨hI, bn, bT⟩, hH, hz, hSv⟩ := hM
  have r0 := hR.1
  have r1 := hR.2.1
  have z7 := hH.2.1
  have hn14 := hH.1
  show mv_Ev sc 168 0 [(2, 264)] [] c (mH h v) _
  have hK : (mv_m 168).1 = kc_Mod_undo := rfl
  refine e_step (pc' := 1) hK rfl rfl rfl ?_
  refine e_step (pc' := 2) hK rfl rfl rfl ?_
  refine e_getI (ci := 4) (k := 7) (pc' := 5) hK rfl (by simp (disch := omega) only [mH_t64, mH_r1, mH_r3, mH_r4, mH_r5, mH_r6, mH_r8, mH_r9, mH_r10, mH_r11, mH_r12, mH_r14, mH_i0, mH_i2, mH_i7, mH_i13, mH_i15, mH_t71, mH_t, mH_lr, mH_l65, mH_l69, mH_l70, mH_l71, mH_l72, mH_l73, mH_l74, mH_l75, mH_c, z7]) rfl rfl (by decide) (by decide) rfl ?_
  try simp (disch := omega) only [mH_t64, mH_r1, mH_r3, mH_r4, mH_r5, mH_r6, mH_r8, mH_r9, mH_r10, mH_r11, mH_r12, mH_r14, mH_i0, mH_i2, mH_i7, mH_i13, mH_i15, mH_t71, mH_t, mH_lr, mH_l65, mH_l69, mH_l70, mH_l71, mH_l72, mH_l73, mH_l74, mH_l75, mH_c, z7]
  refine e_if (t := 12) (pc' := 8) hK rfl (by omega) (by decide) rfl (fun hb5 => ?_) (fun hb5 => ?_)
  · replace hb5 := cq_ne.1.mp hb5
    refine e_step (pc' := 13) hK rfl rfl rfl ?_
    refine e_cQV2 (z := 110) hK rfl rfl (by first | (simp (disch := omega) only [mH_t64, mH_r1, mH_r3, mH_r4, mH_r5, mH_r6, mH_r8, mH_r9, mH_r10, mH_r11, mH_r12, mH_r14, mH_i0, mH_i2, mH_i7, mH_i13, mH_i15, mH_t71, mH_t, mH_lr, mH_l65, mH_l69, mH_l70, mH_l71, mH_l72, mH_l73, mH_l74, mH_l75, mH_c, z7]; rfl) | (show _ = 2; assumption) | (show _ = 1; assumption) | (show _ = 0; assumption) | (show _ = 3; assumption) | (show _ = 4; assumption)) rfl (Nat.le_of_ble_eq_true rfl) (Nat.le_of_ble_eq_true rfl) (m_ref0) ?_
    rintro _ _ _ ⟨rfl, rfl, rfl⟩
    refine ⟨by show (0 : Nat) ≠ 4; decide, ?_⟩
    rw [if_neg (by show ¬ (0 : Nat) = 3; decide)]
    try dsimp only
    have hM1 := hM0.rf 0
    obtain ⟨v1, hv1⟩ : ∃ v1, v1 = gu v 264 (mv_up (v 264) 0 0) := ⟨_, rfl⟩
    rw [← hv1] at hM1 ⊢
    have z1 : v1 264 0 = 0 := by { rw [hv1, gu_s, up_s] }
    have eo1 : ∀ b : Int, b ≠ 264 → v1 b = v b := fun b hb => by { rw [hv1]; exact gu_n hb }
    have ef1 : ∀ k : Int, k ≠ 0 → v1 264 k = v 264 k := fun k hk => by { rw [hv1, gu_s, up_n hk] }
    have hR1 := hM1.2.1
    have ra1 := hR1.1
    have rb1 := hR1.2.1
    clear hv1
    show mv_Ev _ _ 16 _ _ _ _ _
    refine e_if (t := 21) (pc' := 19) hK rfl (by omega) (by decide) rfl (fun hb16 => ?_) (fun hb16 => ?_)
    · replace hb16 := cq_eq.1.mp hb16
      have z71 : v1 264 7 = wn W := (ef1 7 (by omega)).trans z7
      refine e_step (pc' := 22) hK rfl rfl rfl ?_
      refine e_step (pc' := 23) hK rfl rfl rfl ?_
      refine e_getI (ci := 4) (k := 7) (pc' := 26) hK rfl (by simp (disch := omega) only [mH_t64, mH_r1, mH_r3, mH_r4, mH_r5, mH_r6, mH_r8, mH_r9, mH_r10, mH_r11, mH_r12, mH_r14, mH_i0, mH_i2, mH_i7, mH_i13, mH_i15, mH_t71, mH_t, mH_lr, mH_l65, mH_l69, mH_l70, mH_l71, mH_l72, mH_l73, mH_l74, mH_l75, mH_c, z7, ra1, rb1, z71]) rfl rfl (by decide) (by decide) rfl ?_
      try simp (disch := omega) only [mH_t64, mH_r1, mH_r3, mH_r4, mH_r5, mH_r6, mH_r8, mH_r9, mH_r10, mH_r11, mH_r12, mH_r14, mH_i0, mH_i2, mH_i7, mH_i13, mH_i15, mH_t71, mH_t, mH_lr, mH_l65, mH_l69, mH_l70, mH_l71, mH_l72, mH_l73, mH_l74, mH_l75, mH_c, z7, ra1, rb1, z71]
      refine e_step (pc' := 27) hK rfl rfl rfl ?_
      refine e_step (pc' := 28) hK rfl rfl rfl ?_
      refine e_put (ci := 4) (k := 7) (pc' := 31) hK rfl (by simp (disch := omega) only [mH_t64, mH_r1, mH_r3, mH_r4, mH_r5, mH_r6, mH_r8, mH_r9, mH_r10, mH_r11, mH_r12, mH_r14, mH_i0, mH_i2, mH_i7, mH_i13, mH_i15, mH_t71, mH_t, mH_lr, mH_l65, mH_l69, mH_l70, mH_l71, mH_l72, mH_l73, mH_l74, mH_l75, mH_c, z7, ra1, rb1, z71]) rfl rfl (by decide) rfl rfl ?_
      simp (disch := omega) only [mW_0, mW_2, mW_7, mW_13, mW_15, mW_a, gu_s]
      refine e_step (pc' := 32) hK rfl rfl rfl ?_
      refine e_getR (ci := 4) (k := 6) (pc' := 35) hK rfl (by simp (disch := omega) only [mH_t64, mH_r1, mH_r3, mH_r4, mH_r5, mH_r6, mH_r8, mH_r9, mH_r10, mH_r11, mH_r12, mH_r14, mH_i0, mH_i2, mH_i7, mH_i13, mH_i15, mH_t71, mH_t, mH_lr, mH_l65, mH_l69, mH_l70, mH_l71, mH_l72, mH_l73, mH_l74, mH_l75, mH_c, z7, ra1, rb1, z71]) rfl rfl (by decide) (by decide) (by (try simp (disch := omega) only [mH_t64, mH_r1, mH_r3, mH_r4, mH_r5, mH_r6, mH_r8, mH_r9, mH_r10, mH_r11, mH_r12, mH_r14, mH_i0, mH_i2, mH_i7, mH_i13, mH_i15, mH_t71, mH_t, mH_lr, mH_l65, mH_l69, mH_l70, mH_l71, mH_l72, mH_l73, mH_l74, mH_l75, mH_c, z7, ra1, rb1, z71]); omega) rfl ?_
      try simp (disch := omega) only [mH_t64, mH_r1, mH_r3, mH_r4, mH_r5, mH_r6, mH_r8, mH_r9, mH_r10, mH_r11, mH_r12, mH_r14, mH_i0, mH_i2, mH_i7, mH_i13, mH_i15, mH_t71, mH_t, mH_lr, mH_l65, mH_l69, mH_l70, mH_l71, mH_l72, mH_l73, mH_l74, mH_l75, mH_c, z7, ra1, rb1, z71]
      show mv_Ev _ _ 35 _ _ _ (mH _ (gu v1 264 (mv_up (v1 264) 7 _))) _
      refine e_step (pc' := 38) hK rfl rfl rfl ?_
      refine e_step (pc' := 39) hK rfl rfl rfl ?_
      refine e_getI (ci := 4) (k := 7) (pc' := 42) hK rfl (by simp (disch := omega) only [mH_t64, mH_r1, mH_r3, mH_r4, mH_r5, mH_r6, mH_r8, mH_r9, mH_r10, mH_r11, mH_r12, mH_r14, mH_i0, mH_i2, mH_i7, mH_i13, mH_i15, mH_t71, mH_t, mH_lr, mH_l65, mH_l69, mH_l70, mH_l71, mH_l72, mH_l73, mH_l74, mH_l75, mH_c, z7, ra1, rb1, z71, gu_s, gu_n, up_s, up_n]) rfl rfl (by decide) (by decide) rfl ?_
      try simp (disch := omega) only [mH_t64, mH_r1, mH_r3, mH_r4, mH_r5, mH_r6, mH_r8, mH_r9, mH_r10, mH_r11, mH_r12, mH_r14, mH_i0, mH_i2, mH_i7, mH_i13, mH_i15, mH_t71, mH_t, mH_lr, mH_l65, mH_l69, mH_l70, mH_l71, mH_l72, mH_l73, mH_l74, mH_l75, mH_c, z7, ra1, rb1, z71, gu_s, gu_n, up_s, up_n]
      refine e_step (pc' := 43) hK rfl rfl rfl ?_
      refine e_step (pc' := 44) hK rfl rfl rfl ?_
      refine e_getR (ci := 4) (k := 3) (pc' := 47) hK rfl (by simp (disch := omega) only [mH_t64, mH_r1, mH_r3, mH_r4, mH_r5, mH_r6, mH_r8, mH_r9, mH_r10, mH_r11, mH_r12, mH_r14, mH_i0, mH_i2, mH_i7, mH_i13, mH_i15, mH_t71, mH_t, mH_lr, mH_l65, mH_l69, mH_l70, mH_l71, mH_l72, mH_l73, mH_l74, mH_l75, mH_c, z7, ra1, rb1, z71, gu_s, gu_n, up_s, up_n]) rfl rfl (by decide) (by decide) (by (try simp (disch := omega) only [mH_t64, mH_r1, mH_r3, mH_r4, mH_r5, mH_r6, mH_r8, mH_r9, mH_r10, mH_r11, mH_r12, mH_r14, mH_i0, mH_i2, mH_i7, mH_i13, mH_i15, mH_t71, mH_t, mH_lr, mH_l65, mH_l69, mH_l70, mH_l71, mH_l72, mH_l73, mH_l74, mH_l75, mH_c, z7, ra1, rb1, z71, gu_s, gu_n, up_s, up_n]); omega) rfl ?_
      try simp (disch := omega) only [mH_t64, mH_r1, mH_r3, mH_r4, mH_r5, mH_r6, mH_r8, mH_r9, mH_r10, mH_r11, mH_r12, mH_r14, mH_i0, mH_i2, mH_i7, mH_i13, mH_i15, mH_t71, mH_t, mH_lr, mH_l65, mH_l69, mH_l70, mH_l71, mH_l72, mH_l73, mH_l74, mH_l75, mH_c, z7, ra1, rb1, z71, gu_s, gu_n, up_s, up_n]
      refine e_step (pc' := 48) hK rfl rfl rfl ?_
      refine e_cQS4 (z := 151) hK rfl rfl rfl (Nat.le_of_ble_eq_true rfl) (Nat.le_of_ble_eq_true rfl) (m_copyLog 269 (1221 * ((wn W : Int) - 1)) 266 0 (by omega) (by omega) (by omega) (by omega) (by omega) (by show 1221 * ((wn W : Int) - 1) + 1221 ≤ (17094 : Int) ∧ (17094 : Int) ≤ 20000; omega) (by show (0 : Int) + 1221 ≤ 1221 ∧ (1221 : Int) ≤ 20000; omega)) ?_
      rintro _ _ _ ⟨rfl, rfl, u, rfl, hu0, ru9⟩
      refine ⟨by decide, ?_⟩
      rw [if_pos rfl]
      try dsimp only
      have u7 : u 264 7 = (wn W : Int) - 1 := by { rw [hu0 264 (by omega), gu_s, up_s] }
      show mv_Ev _ _ 51 _ _ _ _ _
      refine e_step (pc' := 52) hK rfl rfl rfl ?_
      refine e_getI (ci := 4) (k := 7) (pc' := 55) hK rfl (by simp (disch := omega) only [mH_t64, mH_r1, mH_r3, mH_r4, mH_r5, mH_r6, mH_r8, mH_r9, mH_r10, mH_r11, mH_r12, mH_r14, mH_i0, mH_i2, mH_i7, mH_i13, mH_i15, mH_t71, mH_t, mH_lr, mH_l65, mH_l69, mH_l70, mH_l71, mH_l72, mH_l73, mH_l74, mH_l75, mH_c, z7, ra1, rb1, z71, gu_s, gu_n, up_s, up_n, u7]) rfl rfl (by decide) (by decide) rfl ?_
      try simp (disch := omega) only [mH_t64, mH_r1, mH_r3, mH_r4, mH_r5, mH_r6, mH_r8, mH_r9, mH_r10, mH_r11, mH_r12, mH_r14, mH_i0, mH_i2, mH_i7, mH_i13, mH_i15, mH_t71, mH_t, mH_lr, mH_l65, mH_l69, mH_l70, mH_l71, mH_l72, mH_l73, mH_l74, mH_l75, mH_c, z7, ra1, rb1, z71, gu_s, gu_n, up_s, up_n, u7]
      refine e_ret hK rfl rfl rfl ?_
      have e9 : sp_undo W = (0, (wn W : Int) - 1, (wN W, wF W, wg W ((wn W : Int) - 1), wn W - 1, wg W, wk W, wS W)) := by { unfold sp_undo; rw [if_neg (by omega)] }
      rw [e9]
      obtain ⟨g1, g2⟩ := hH.2.2 ((wn W : Int) - 1) (by omega) (by omega)
      have e64 : ∀ k : Int, k ≠ 7 → u 264 k = v1 264 k := fun k hk => by { rw [hu0 264 (by omega), gu_s, up_n hk] }
      have eb : ∀ b : Int, b ≠ 264 → b ≠ 266 → u b = v b := fun b n1 n2 => by { rw [hu0 b n2, gu_n n1, eo1 b n1] }
      refine ⟨rfl, rfl, u, rfl, ⟨hTx.kq (eb 265 (by omega) (by omega)) ((e64 2 (by omega)).trans (ef1 2 (by omega))), ?_, hz _ (by omega) (by omega), ⟨by show wn W - 1 ≤ 14; have := hH.1; omega, by rw [u7]; show _ = ((wn W - 1 : Nat) : Int); omega, fun j j0 (j1 : j < ((wn W - 1 : Nat) : Int)) => ?_⟩, fun j j0 (j1 : j < ((wn W - 1 : Nat) : Int)) => hz j j0 (by omega), fun s hs => ?_⟩, (e64 0 (by omega)).trans z1⟩
      · refine Rw_ext g2 g1 (fun q q0 q1 => ?_)
        rw [ru9 q, if_pos (by omega), gu_n (by omega), eo1 269 (by omega)]
        exact congrArg (v 269) (by omega)
      · rw [eb 269 (by omega) (by omega)]; exact hH.2.2 j j0 (by omega)
      · rw [eb 271 (by omega) (by omega), eb 270 (by omega) (by omega)]; exact hSv s hs
    · replace hb16 := cq_eq.2.mp hb16
      exfalso; first | omega | exact absurd trivial (by assumption)
  · replace hb5 := cq_ne.2.mp hb5
    refine e_step (pc' := 9) hK rfl rfl rfl ?_
    refine e_goto (t := 13) hK rfl (by decide) ?_
    refine e_cQV2 (z := 110) hK rfl rfl (by first | (simp (disch := omega) only [mH_t64, mH_r1, mH_r3, mH_r4, mH_r5, mH_r6, mH_r8, mH_r9, mH_r10, mH_r11, mH_r12, mH_r14, mH_i0, mH_i2, mH_i7, mH_i13, mH_i15, mH_t71, mH_t, mH_lr, mH_l65, mH_l69, mH_l70, mH_l71, mH_l72, mH_l73, mH_l74, mH_l75, mH_c, z7]; rfl) | (show _ = 2; assumption) | (show _ = 1; assumption) | (show _ = 0; assumption) | (show _ = 3; assumption) | (show _ = 4; assumption)) rfl (Nat.le_of_ble_eq_true rfl) (Nat.le_of_ble_eq_true rfl) (m_refP 1 (by omega)) ?_
    rintro _ _ _ ⟨rfl, rfl, rfl⟩
    refine ⟨by show (0 : Nat) ≠ 4; decide, ?_⟩
    rw [if_neg (by show ¬ (0 : Nat) = 3; decide)]
    try dsimp only
    have hM1 := hM0.rf 1
    obtain ⟨v1, hv1⟩ : ∃ v1, v1 = gu v 264 (mv_up (v 264) 0 1) := ⟨_, rfl⟩
    rw [← hv1] at hM1 ⊢
    have z1 : v1 264 0 = 1 := by { rw [hv1, gu_s, up_s] }
    have eo1 : ∀ b : Int, b ≠ 264 → v1 b = v b := fun b hb => by { rw [hv1]; exact gu_n hb }
    have ef1 : ∀ k : Int, k ≠ 0 → v1 264 k = v 264 k := fun k hk => by { rw [hv1, gu_s, up_n hk] }
    have hR1 := hM1.2.1
    have ra1 := hR1.1
    have rb1 := hR1.2.1
    clear hv1
    show mv_Ev _ _ 16 _ _ _ _ _
    refine e_if (t := 21) (pc' := 19) hK rfl (by omega) (by decide) rfl (fun hb16 => ?_) (fun hb16 => ?_)
    · replace hb16 := cq_eq.1.mp hb16
      exfalso; first | omega | exact absurd trivial (by assumption)
    · replace hb16 := cq_eq.2.mp hb16
      refine e_step (pc' := 20) hK rfl rfl rfl ?_
      refine e_ret hK rfl rfl rfl ?_
      have e9 : sp_undo W = (1, 0, W) := by { unfold sp_undo; (repeat (first | rw [if_pos (by omega)] | rw [if_neg (by omega)])) }
      rw [e9]
      exact ⟨rfl, rfl, v1, rfl, hM1, z1⟩
end GC
