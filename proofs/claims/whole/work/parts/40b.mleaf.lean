/-! the reference: its leaves (written by wip/whole/m40.py) -/
section ML
variable {sc : Int × (Int → Int)} {c : mv_C} {h : mv_H} {v : mvt}
set_option maxRecDepth 10000 in
theorem m_in (x lo hi : Int) (hx : mv_l x) (hl : mv_l lo) (hh : mv_l hi) : mv_Cl sc q_Mod_in [(1, x), (1, lo), (1, hi)] c h (mv_Rd (0, mv_bo (decide (lo ≤ x) && decide (x ≤ hi))) c h) := by
  have q1 := cL_b x lo
  have q2 := cL_b x hi
  show mv_Ev sc 109 0 [(1, x), (5, 0), (1, lo), (5, 0), (1, hi), (5, 0)] [] c h _
  have hK : (mv_m 109).1 = kc_Mod_in := rfl
  refine e_step (pc' := 1) hK rfl rfl rfl ?_
  refine e_step (pc' := 2) hK rfl rfl rfl ?_
  refine e_lcmp (pc' := 3) hK rfl (by omega) (by omega) rfl ?_
  refine e_if (t := 17) (pc' := 6) hK rfl (by omega) (by decide) rfl (fun hb3 => ?_) (fun hb3 => ?_)
  · replace hb3 := cq_lt.1.mp hb3
    refine e_step (pc' := 18) hK rfl rfl rfl ?_
    refine e_ret hK rfl rfl (by first | rfl | (simp only [mv_ret]; rw [if_pos]; exact Or.inr ⟨rfl, by omega⟩) | (simp only [mv_ret]; rw [if_pos]; exact Or.inr ⟨rfl, by unfold mv_bo; split <;> first | exact Or.inl rfl | exact Or.inr rfl⟩)) ?_
    refine ⟨?_, rfl, rfl⟩
    congr 1
    unfold mv_bo
    first | (rw [if_pos (by simp only [Bool.and_eq_true, decide_eq_true_eq]; omega)]; done) | (rw [if_neg (by simp only [Bool.and_eq_true, decide_eq_true_eq]; omega)])
  · replace hb3 := cq_lt.2.mp hb3
    refine e_step (pc' := 7) hK rfl rfl rfl ?_
    refine e_step (pc' := 9) hK rfl rfl rfl ?_
    refine e_lcmp (pc' := 10) hK rfl (by omega) (by omega) rfl ?_
    refine e_if (t := 17) (pc' := 13) hK rfl (by omega) (by decide) rfl (fun hb10 => ?_) (fun hb10 => ?_)
    · replace hb10 := cq_gt.1.mp hb10
      refine e_step (pc' := 18) hK rfl rfl rfl ?_
      refine e_ret hK rfl rfl (by first | rfl | (simp only [mv_ret]; rw [if_pos]; exact Or.inr ⟨rfl, by omega⟩) | (simp only [mv_ret]; rw [if_pos]; exact Or.inr ⟨rfl, by unfold mv_bo; split <;> first | exact Or.inl rfl | exact Or.inr rfl⟩)) ?_
      refine ⟨?_, rfl, rfl⟩
      congr 1
      unfold mv_bo
      first | (rw [if_pos (by simp only [Bool.and_eq_true, decide_eq_true_eq]; omega)]; done) | (rw [if_neg (by simp only [Bool.and_eq_true, decide_eq_true_eq]; omega)])
    · replace hb10 := cq_gt.2.mp hb10
      refine e_step (pc' := 14) hK rfl rfl rfl ?_
      refine e_goto (t := 18) hK rfl (by decide) ?_
      refine e_ret hK rfl rfl (by first | rfl | (simp only [mv_ret]; rw [if_pos]; exact Or.inr ⟨rfl, by omega⟩) | (simp only [mv_ret]; rw [if_pos]; exact Or.inr ⟨rfl, by unfold mv_bo; split <;> first | exact Or.inl rfl | exact Or.inr rfl⟩)) ?_
      refine ⟨?_, rfl, rfl⟩
      congr 1
      unfold mv_bo
      first | (rw [if_pos (by simp only [Bool.and_eq_true, decide_eq_true_eq]; omega)]; done) | (rw [if_neg (by simp only [Bool.and_eq_true, decide_eq_true_eq]; omega)])
set_option maxRecDepth 10000 in
theorem m_lineAt (i : Int) : mv_Cl sc q_Mod_lineAt [(0, i)] c h (mv_Rd (0, 2 + 42 * i) c h) := by
  show mv_Ev sc 116 0 [(0, i)] [] c h _
  have hK : (mv_m 116).1 = kc_Mod_lineAt := rfl
  refine e_step (pc' := 1) hK rfl rfl rfl ?_
  refine e_step (pc' := 3) hK rfl rfl rfl ?_
  refine e_step (pc' := 4) hK rfl rfl rfl ?_
  refine e_step (pc' := 5) hK rfl rfl rfl ?_
  refine e_step (pc' := 6) hK rfl rfl rfl ?_
  refine e_ret hK rfl rfl rfl ?_
  exact ⟨rfl, rfl, rfl⟩
set_option maxRecDepth 10000 in
theorem m_tempAt (t : Int) : mv_Cl sc q_Mod_templateAt [(0, t)] c h (mv_Rd (0, 1052 + 13 * t) c h) := by
  show mv_Ev sc 119 0 [(0, t)] [] c h _
  have hK : (mv_m 119).1 = kc_Mod_templateAt := rfl
  refine e_step (pc' := 3) hK rfl rfl rfl ?_
  refine e_step (pc' := 5) hK rfl rfl rfl ?_
  refine e_step (pc' := 6) hK rfl rfl rfl ?_
  refine e_step (pc' := 7) hK rfl rfl rfl ?_
  refine e_step (pc' := 8) hK rfl rfl rfl ?_
  refine e_ret hK rfl rfl rfl ?_
  exact ⟨rfl, rfl, rfl⟩
set_option maxRecDepth 10000 in
theorem m_refused (x : Int) (hx : mv_i x) : mv_Cl sc q_Mod_refused [(2, 264), (0, x)] c (mH h v) (fun r c' h' => r = (0, mv_bo (decide (0 < x))) ∧ c' = c ∧ h' = mH h (gu v 264 (mv_up (v 264) 0 x))) := by
  show mv_Ev sc 110 0 [(2, 264), (0, x)] [] c (mH h v) _
  have hK : (mv_m 110).1 = kc_Mod_refused := rfl
  refine e_step (pc' := 1) hK rfl rfl rfl ?_
  refine e_step (pc' := 2) hK rfl rfl rfl ?_
  refine e_put (ci := 4) (k := 0) (pc' := 5) hK rfl (by simp (disch := omega) only [mH_t64, mH_r1, mH_r3, mH_r4, mH_r5, mH_r6, mH_r8, mH_r9, mH_r10, mH_r11, mH_r12, mH_r14, mH_i0, mH_i2, mH_i7, mH_i13, mH_i15, mH_t71, mH_t, mH_lr, mH_l65, mH_l69, mH_l70, mH_l71, mH_l72, mH_l73, mH_l74, mH_l75, mH_c]) rfl rfl (by decide) rfl rfl ?_
  simp only [mW_0, mW_2, mW_7, mW_13, mW_15, mW_a]
  refine e_step (pc' := 6) hK rfl rfl rfl ?_
  refine e_if (t := 13) (pc' := 9) hK rfl (by omega) (by decide) rfl (fun hb6 => ?_) (fun hb6 => ?_)
  · replace hb6 := cq_le.1.mp hb6
    refine e_step (pc' := 14) hK rfl rfl rfl ?_
    refine e_ret hK rfl rfl (by first | rfl | (simp only [mv_ret]; rw [if_pos]; exact Or.inr ⟨rfl, by omega⟩) | (simp only [mv_ret]; rw [if_pos]; exact Or.inr ⟨rfl, by unfold mv_bo; split <;> first | exact Or.inl rfl | exact Or.inr rfl⟩)) ?_
    refine ⟨?_, rfl, rfl⟩
    congr 1
    unfold mv_bo
    first | (rw [if_pos (by simp only [decide_eq_true_eq]; omega)]; done) | (rw [if_neg (by simp only [decide_eq_true_eq]; omega)])
  · replace hb6 := cq_le.2.mp hb6
    refine e_step (pc' := 10) hK rfl rfl rfl ?_
    refine e_goto (t := 14) hK rfl (by decide) ?_
    refine e_ret hK rfl rfl (by first | rfl | (simp only [mv_ret]; rw [if_pos]; exact Or.inr ⟨rfl, by omega⟩) | (simp only [mv_ret]; rw [if_pos]; exact Or.inr ⟨rfl, by unfold mv_bo; split <;> first | exact Or.inl rfl | exact Or.inr rfl⟩)) ?_
    refine ⟨?_, rfl, rfl⟩
    congr 1
    unfold mv_bo
    first | (rw [if_pos (by simp only [decide_eq_true_eq]; omega)]; done) | (rw [if_neg (by simp only [decide_eq_true_eq]; omega)])
set_option maxRecDepth 10000 in
theorem m_kindOf (a : Int) (ha : 266 ≤ a ∧ a ≤ 268) (t q : Int) (h0 : 0 ≤ 1052 + 13 * t + 1 + q) (h1 : 1052 + 13 * t + 1 + q < 1221) : mv_Cl sc q_Mod_kindOf [(2, a), (0, t), (0, q)] c (mH h v) (mv_Rd (0, v a (1052 + 13 * t + 1 + q)) c (mH h v)) := by
  show mv_Ev sc 120 0 [(2, a), (0, t), (0, q)] [] c (mH h v) _
  have hK : (mv_m 120).1 = kc_Mod_kindOf := rfl
  refine e_step (pc' := 1) hK rfl rfl rfl ?_
  refine e_step (pc' := 2) hK rfl rfl rfl ?_
  refine e_cRS1 (z := 119) (pc' := 5) hK rfl rfl rfl (Nat.le_of_ble_eq_true rfl) (Nat.le_of_ble_eq_true rfl) (m_tempAt t) (by decide) rfl ?_
  try simp (disch := omega) only [mH_t64, mH_r1, mH_r3, mH_r4, mH_r5, mH_r6, mH_r8, mH_r9, mH_r10, mH_r11, mH_r12, mH_r14, mH_i0, mH_i2, mH_i7, mH_i13, mH_i15, mH_t71, mH_t, mH_lr, mH_l65, mH_l69, mH_l70, mH_l71, mH_l72, mH_l73, mH_l74, mH_l75, mH_c]
  refine e_step (pc' := 6) hK rfl rfl rfl ?_
  refine e_step (pc' := 7) hK rfl rfl rfl ?_
  refine e_step (pc' := 8) hK rfl rfl rfl ?_
  refine e_step (pc' := 9) hK rfl rfl rfl ?_
  refine e_iald (pc' := 10) hK rfl (by simp (disch := omega) only [mH_t64, mH_r1, mH_r3, mH_r4, mH_r5, mH_r6, mH_r8, mH_r9, mH_r10, mH_r11, mH_r12, mH_r14, mH_i0, mH_i2, mH_i7, mH_i13, mH_i15, mH_t71, mH_t, mH_lr, mH_l65, mH_l69, mH_l70, mH_l71, mH_l72, mH_l73, mH_l74, mH_l75, mH_c]) (by omega) (by (try simp (disch := omega) only [mH_t64, mH_r1, mH_r3, mH_r4, mH_r5, mH_r6, mH_r8, mH_r9, mH_r10, mH_r11, mH_r12, mH_r14, mH_i0, mH_i2, mH_i7, mH_i13, mH_i15, mH_t71, mH_t, mH_lr, mH_l65, mH_l69, mH_l70, mH_l71, mH_l72, mH_l73, mH_l74, mH_l75, mH_c]); omega) rfl ?_
  try simp (disch := omega) only [mH_t64, mH_r1, mH_r3, mH_r4, mH_r5, mH_r6, mH_r8, mH_r9, mH_r10, mH_r11, mH_r12, mH_r14, mH_i0, mH_i2, mH_i7, mH_i13, mH_i15, mH_t71, mH_t, mH_lr, mH_l65, mH_l69, mH_l70, mH_l71, mH_l72, mH_l73, mH_l74, mH_l75, mH_c]
  refine e_ret hK rfl rfl rfl ?_
  exact ⟨rfl, rfl, rfl⟩
set_option maxRecDepth 10000 in
theorem m_isLine (a : Int) (ha : 266 ≤ a ∧ a ≤ 268) (i : Int) (hi : mv_i i) (hr : mv_i (v a 0 - 1)) : mv_Cl sc q_Mod_isLine [(2, a), (0, i)] c (mH h v) (mv_Rd (0, mv_bo (decide (0 ≤ i) && decide (i ≤ v a 0 - 1))) c (mH h v)) := by
  show mv_Ev sc 134 0 [(2, a), (0, i)] [] c (mH h v) _
  have hK : (mv_m 134).1 = kc_Mod_isLine := rfl
  refine e_step (pc' := 1) hK rfl rfl rfl ?_
  refine e_i2l (pc' := 2) hK rfl (by omega) rfl ?_
  refine e_step (pc' := 3) hK rfl rfl rfl ?_
  refine e_step (pc' := 4) hK rfl rfl rfl ?_
  refine e_step (pc' := 5) hK rfl rfl rfl ?_
  refine e_iald (pc' := 6) hK rfl (by simp (disch := omega) only [mH_t64, mH_r1, mH_r3, mH_r4, mH_r5, mH_r6, mH_r8, mH_r9, mH_r10, mH_r11, mH_r12, mH_r14, mH_i0, mH_i2, mH_i7, mH_i13, mH_i15, mH_t71, mH_t, mH_lr, mH_l65, mH_l69, mH_l70, mH_l71, mH_l72, mH_l73, mH_l74, mH_l75, mH_c]) (by omega) (by (try simp (disch := omega) only [mH_t64, mH_r1, mH_r3, mH_r4, mH_r5, mH_r6, mH_r8, mH_r9, mH_r10, mH_r11, mH_r12, mH_r14, mH_i0, mH_i2, mH_i7, mH_i13, mH_i15, mH_t71, mH_t, mH_lr, mH_l65, mH_l69, mH_l70, mH_l71, mH_l72, mH_l73, mH_l74, mH_l75, mH_c]); omega) rfl ?_
  try simp (disch := omega) only [mH_t64, mH_r1, mH_r3, mH_r4, mH_r5, mH_r6, mH_r8, mH_r9, mH_r10, mH_r11, mH_r12, mH_r14, mH_i0, mH_i2, mH_i7, mH_i13, mH_i15, mH_t71, mH_t, mH_lr, mH_l65, mH_l69, mH_l70, mH_l71, mH_l72, mH_l73, mH_l74, mH_l75, mH_c]
  refine e_step (pc' := 7) hK rfl rfl rfl ?_
  refine e_step (pc' := 8) hK rfl rfl rfl ?_
  refine e_i2l (pc' := 9) hK rfl (by omega) rfl ?_
  refine e_cRS3 (z := 109) (pc' := 12) hK rfl rfl rfl (Nat.le_of_ble_eq_true rfl) (Nat.le_of_ble_eq_true rfl) (m_in i 0 (v a 0 - 1) (by omega) (by omega) (by omega)) (by decide) rfl ?_
  try simp (disch := omega) only [mH_t64, mH_r1, mH_r3, mH_r4, mH_r5, mH_r6, mH_r8, mH_r9, mH_r10, mH_r11, mH_r12, mH_r14, mH_i0, mH_i2, mH_i7, mH_i13, mH_i15, mH_t71, mH_t, mH_lr, mH_l65, mH_l69, mH_l70, mH_l71, mH_l72, mH_l73, mH_l74, mH_l75, mH_c]
  refine e_ret hK rfl rfl (by first | rfl | (simp only [mv_ret]; rw [if_pos]; exact Or.inr ⟨rfl, by omega⟩) | (simp only [mv_ret]; rw [if_pos]; exact Or.inr ⟨rfl, by unfold mv_bo; split <;> first | exact Or.inl rfl | exact Or.inr rfl⟩)) ?_
  exact ⟨rfl, rfl, rfl⟩
set_option maxRecDepth 10000 in
theorem m_isTemplate (a : Int) (ha : 266 ≤ a ∧ a ≤ 268) (i : Int) (hi : mv_i i) (hr : mv_i (v a 1 - 1)) : mv_Cl sc q_Mod_isTemplate [(2, a), (0, i)] c (mH h v) (mv_Rd (0, mv_bo (decide (0 ≤ i) && decide (i ≤ v a 1 - 1))) c (mH h v)) := by
  show mv_Ev sc 139 0 [(2, a), (0, i)] [] c (mH h v) _
  have hK : (mv_m 139).1 = kc_Mod_isTemplate := rfl
  refine e_step (pc' := 1) hK rfl rfl rfl ?_
  refine e_i2l (pc' := 2) hK rfl (by omega) rfl ?_
  refine e_step (pc' := 3) hK rfl rfl rfl ?_
  refine e_step (pc' := 4) hK rfl rfl rfl ?_
  refine e_step (pc' := 5) hK rfl rfl rfl ?_
  refine e_iald (pc' := 6) hK rfl (by simp (disch := omega) only [mH_t64, mH_r1, mH_r3, mH_r4, mH_r5, mH_r6, mH_r8, mH_r9, mH_r10, mH_r11, mH_r12, mH_r14, mH_i0, mH_i2, mH_i7, mH_i13, mH_i15, mH_t71, mH_t, mH_lr, mH_l65, mH_l69, mH_l70, mH_l71, mH_l72, mH_l73, mH_l74, mH_l75, mH_c]) (by omega) (by (try simp (disch := omega) only [mH_t64, mH_r1, mH_r3, mH_r4, mH_r5, mH_r6, mH_r8, mH_r9, mH_r10, mH_r11, mH_r12, mH_r14, mH_i0, mH_i2, mH_i7, mH_i13, mH_i15, mH_t71, mH_t, mH_lr, mH_l65, mH_l69, mH_l70, mH_l71, mH_l72, mH_l73, mH_l74, mH_l75, mH_c]); omega) rfl ?_
  try simp (disch := omega) only [mH_t64, mH_r1, mH_r3, mH_r4, mH_r5, mH_r6, mH_r8, mH_r9, mH_r10, mH_r11, mH_r12, mH_r14, mH_i0, mH_i2, mH_i7, mH_i13, mH_i15, mH_t71, mH_t, mH_lr, mH_l65, mH_l69, mH_l70, mH_l71, mH_l72, mH_l73, mH_l74, mH_l75, mH_c]
  refine e_step (pc' := 7) hK rfl rfl rfl ?_
  refine e_step (pc' := 8) hK rfl rfl rfl ?_
  refine e_i2l (pc' := 9) hK rfl (by omega) rfl ?_
  refine e_cRS3 (z := 109) (pc' := 12) hK rfl rfl rfl (Nat.le_of_ble_eq_true rfl) (Nat.le_of_ble_eq_true rfl) (m_in i 0 (v a 1 - 1) (by omega) (by omega) (by omega)) (by decide) rfl ?_
  try simp (disch := omega) only [mH_t64, mH_r1, mH_r3, mH_r4, mH_r5, mH_r6, mH_r8, mH_r9, mH_r10, mH_r11, mH_r12, mH_r14, mH_i0, mH_i2, mH_i7, mH_i13, mH_i15, mH_t71, mH_t, mH_lr, mH_l65, mH_l69, mH_l70, mH_l71, mH_l72, mH_l73, mH_l74, mH_l75, mH_c]
  refine e_ret hK rfl rfl (by first | rfl | (simp only [mv_ret]; rw [if_pos]; exact Or.inr ⟨rfl, by omega⟩) | (simp only [mv_ret]; rw [if_pos]; exact Or.inr ⟨rfl, by unfold mv_bo; split <;> first | exact Or.inl rfl | exact Or.inr rfl⟩)) ?_
  exact ⟨rfl, rfl, rfl⟩
set_option maxRecDepth 10000 in
theorem m_signKind (x : Int) (hx : mv_i x) : mv_Cl sc q_Mod_signKind [(0, x)] c h (mv_Rd (0, if px_k x = -1 then -9999 else px_k x) c h) := by
  show mv_Ev sc 114 0 [(0, x)] [] c h _
  have hK : (mv_m 114).1 = kc_Mod_signKind := rfl
  refine e_step (pc' := 1) hK rfl rfl rfl ?_
  refine e_i2l (pc' := 2) hK rfl (by first | omega | exact bo_i _) rfl ?_
  refine e_step (pc' := 5) hK rfl rfl rfl ?_
  refine e_step (pc' := 8) hK rfl rfl rfl ?_
  refine e_cRS3 (z := 109) (pc' := 11) hK rfl rfl rfl (Nat.le_of_ble_eq_true rfl) (Nat.le_of_ble_eq_true rfl) (m_in x 97 122 (by omega) (by omega) (by omega)) (by decide) rfl ?_
  refine e_if (t := 18) (pc' := 14) hK rfl (by first | omega | exact bo_i _) (by decide) rfl (fun hb11 => ?_) (fun hb11 => ?_)
  · replace hb11 := cq_eq.1.mp hb11
    try simp only [bo_0, Bool.not_eq_false] at hb11
    refine e_step (pc' := 19) hK rfl rfl rfl ?_
    refine e_i2l (pc' := 20) hK rfl (by first | omega | exact bo_i _) rfl ?_
    refine e_step (pc' := 23) hK rfl rfl rfl ?_
    refine e_step (pc' := 26) hK rfl rfl rfl ?_
    refine e_cRS3 (z := 109) (pc' := 29) hK rfl rfl rfl (Nat.le_of_ble_eq_true rfl) (Nat.le_of_ble_eq_true rfl) (m_in x 48 57 (by omega) (by omega) (by omega)) (by decide) rfl ?_
    refine e_if (t := 36) (pc' := 32) hK rfl (by first | omega | exact bo_i _) (by decide) rfl (fun hb29 => ?_) (fun hb29 => ?_)
    · replace hb29 := cq_eq.1.mp hb29
      try simp only [bo_0, Bool.not_eq_false] at hb29
      refine e_step (pc' := 37) hK rfl rfl rfl ?_
      refine e_step (pc' := 39) hK rfl rfl rfl ?_
      refine e_icmp (t := 46) (pc' := 42) hK rfl (by first | omega | exact bo_i _) (by first | omega | exact bo_i _) (by decide) rfl (fun hb39 => ?_) (fun hb39 => ?_)
      · replace hb39 := cq_ne.1.mp hb39
        try simp only [bo_0, Bool.not_eq_false] at hb39
        refine e_step (pc' := 47) hK rfl rfl rfl ?_
        refine e_step (pc' := 49) hK rfl rfl rfl ?_
        refine e_icmp (t := 58) (pc' := 52) hK rfl (by first | omega | exact bo_i _) (by first | omega | exact bo_i _) (by decide) rfl (fun hb49 => ?_) (fun hb49 => ?_)
        · replace hb49 := cq_eq.1.mp hb49
          try simp only [bo_0, Bool.not_eq_false] at hb49
          refine e_step (pc' := 59) hK rfl rfl rfl ?_
          refine e_goto (t := 65) hK rfl (by decide) ?_
          refine e_ret hK rfl rfl rfl ?_
          refine ⟨?_, rfl, rfl⟩
          congr 1
          have q1 : (decide (97 ≤ x) && decide (x ≤ 122)) = true ↔ (97 ≤ x ∧ x ≤ 122) := by simp only [Bool.and_eq_true, decide_eq_true_eq]
          have q2 : (decide (48 ≤ x) && decide (x ≤ 57)) = true ↔ (48 ≤ x ∧ x ≤ 57) := by simp only [Bool.and_eq_true, decide_eq_true_eq]
          try rw [hb11] at q1
          try rw [hb29] at q2
          simp only [Bool.false_eq_true, false_iff, true_iff] at q1 q2
          unfold px_k
          (repeat' split) <;> omega
        · replace hb49 := cq_eq.2.mp hb49
          try simp only [bo_0, Bool.not_eq_false] at hb49
          refine e_step (pc' := 53) hK rfl rfl rfl ?_
          refine e_step (pc' := 55) hK rfl rfl rfl ?_
          refine e_icmp (t := 62) (pc' := 58) hK rfl (by first | omega | exact bo_i _) (by first | omega | exact bo_i _) (by decide) rfl (fun hb55 => ?_) (fun hb55 => ?_)
          · replace hb55 := cq_ne.1.mp hb55
            try simp only [bo_0, Bool.not_eq_false] at hb55
            refine e_step (pc' := 65) hK rfl rfl rfl ?_
            refine e_ret hK rfl rfl rfl ?_
            refine ⟨?_, rfl, rfl⟩
            congr 1
            have q1 : (decide (97 ≤ x) && decide (x ≤ 122)) = true ↔ (97 ≤ x ∧ x ≤ 122) := by simp only [Bool.and_eq_true, decide_eq_true_eq]
            have q2 : (decide (48 ≤ x) && decide (x ≤ 57)) = true ↔ (48 ≤ x ∧ x ≤ 57) := by simp only [Bool.and_eq_true, decide_eq_true_eq]
            try rw [hb11] at q1
            try rw [hb29] at q2
            simp only [Bool.false_eq_true, false_iff, true_iff] at q1 q2
            unfold px_k
            (repeat' split) <;> omega
          · replace hb55 := cq_ne.2.mp hb55
            try simp only [bo_0, Bool.not_eq_false] at hb55
            refine e_step (pc' := 59) hK rfl rfl rfl ?_
            refine e_goto (t := 65) hK rfl (by decide) ?_
            refine e_ret hK rfl rfl rfl ?_
            refine ⟨?_, rfl, rfl⟩
            congr 1
            have q1 : (decide (97 ≤ x) && decide (x ≤ 122)) = true ↔ (97 ≤ x ∧ x ≤ 122) := by simp only [Bool.and_eq_true, decide_eq_true_eq]
            have q2 : (decide (48 ≤ x) && decide (x ≤ 57)) = true ↔ (48 ≤ x ∧ x ≤ 57) := by simp only [Bool.and_eq_true, decide_eq_true_eq]
            try rw [hb11] at q1
            try rw [hb29] at q2
            simp only [Bool.false_eq_true, false_iff, true_iff] at q1 q2
            unfold px_k
            (repeat' split) <;> omega
      · replace hb39 := cq_ne.2.mp hb39
        try simp only [bo_0, Bool.not_eq_false] at hb39
        refine e_step (pc' := 43) hK rfl rfl rfl ?_
        refine e_goto (t := 65) hK rfl (by decide) ?_
        refine e_ret hK rfl rfl rfl ?_
        refine ⟨?_, rfl, rfl⟩
        congr 1
        have q1 : (decide (97 ≤ x) && decide (x ≤ 122)) = true ↔ (97 ≤ x ∧ x ≤ 122) := by simp only [Bool.and_eq_true, decide_eq_true_eq]
        have q2 : (decide (48 ≤ x) && decide (x ≤ 57)) = true ↔ (48 ≤ x ∧ x ≤ 57) := by simp only [Bool.and_eq_true, decide_eq_true_eq]
        try rw [hb11] at q1
        try rw [hb29] at q2
        simp only [Bool.false_eq_true, false_iff, true_iff] at q1 q2
        unfold px_k
        (repeat' split) <;> omega
    · replace hb29 := cq_eq.2.mp hb29
      try simp only [bo_0, Bool.not_eq_false] at hb29
      refine e_step (pc' := 33) hK rfl rfl rfl ?_
      refine e_goto (t := 65) hK rfl (by decide) ?_
      refine e_ret hK rfl rfl rfl ?_
      refine ⟨?_, rfl, rfl⟩
      congr 1
      have q1 : (decide (97 ≤ x) && decide (x ≤ 122)) = true ↔ (97 ≤ x ∧ x ≤ 122) := by simp only [Bool.and_eq_true, decide_eq_true_eq]
      have q2 : (decide (48 ≤ x) && decide (x ≤ 57)) = true ↔ (48 ≤ x ∧ x ≤ 57) := by simp only [Bool.and_eq_true, decide_eq_true_eq]
      try rw [hb11] at q1
      try rw [hb29] at q2
      simp only [Bool.false_eq_true, false_iff, true_iff] at q1 q2
      unfold px_k
      (repeat' split) <;> omega
  · replace hb11 := cq_eq.2.mp hb11
    try simp only [bo_0, Bool.not_eq_false] at hb11
    refine e_step (pc' := 15) hK rfl rfl rfl ?_
    refine e_goto (t := 65) hK rfl (by decide) ?_
    refine e_ret hK rfl rfl rfl ?_
    refine ⟨?_, rfl, rfl⟩
    congr 1
    have q1 : (decide (97 ≤ x) && decide (x ≤ 122)) = true ↔ (97 ≤ x ∧ x ≤ 122) := by simp only [Bool.and_eq_true, decide_eq_true_eq]
    have q2 : (decide (48 ≤ x) && decide (x ≤ 57)) = true ↔ (48 ≤ x ∧ x ≤ 57) := by simp only [Bool.and_eq_true, decide_eq_true_eq]
    try rw [hb11] at q1
    try rw [hb29] at q2
    simp only [Bool.false_eq_true, false_iff, true_iff] at q1 q2
    unfold px_k
    (repeat' split) <;> omega
end ML
