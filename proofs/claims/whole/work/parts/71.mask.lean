/-! the reference's face: questions (written by wip/whole/m71.py) -/
section GA
variable {sc : Int × (Int → Int)} {c : mv_C} {h : mv_H} {v : mvt}
theorem m_ref0 : mv_Cl sc q_Mod_refused [(2, 264), (0, 0)] c (mH h v) (fun r c' h' => r = (0, 0) ∧ c' = c ∧ h' = mH h (gu v 264 (mv_up (v 264) 0 0))) := m_refused 0 (by omega)
theorem m_refP (x : Int) (hx : x = 1 ∨ x = 2) : mv_Cl sc q_Mod_refused [(2, 264), (0, x)] c (mH h v) (fun r c' h' => r = (0, 1) ∧ c' = c ∧ h' = mH h (gu v 264 (mv_up (v 264) 0 x))) := by
  have h1 := m_refused (sc := sc) (c := c) (h := h) (v := v) x (by omega)
  rw [decide_eq_true (by omega)] at h1
  exact h1
set_option maxRecDepth 10000 in
theorem g_thrown (k : Int) (hk : v 264 0 = k) : mv_Cl sc q_Mod_thrown [(2, 264)] c (mH h v) (mv_Rd (0, k) c (mH h v)) := by
  show mv_Ev sc 107 0 [(2, 264)] [] c (mH h v) _
  have hK : (mv_m 107).1 = kc_Mod_thrown := rfl
  refine e_step (pc' := 1) hK rfl rfl rfl ?_
  refine e_getI (ci := 4) (k := 0) (pc' := 4) hK rfl (by simp (disch := omega) only [mH_t64, mH_r1, mH_r3, mH_r4, mH_r5, mH_r6, mH_r8, mH_r9, mH_r10, mH_r11, mH_r12, mH_r14, mH_i0, mH_i2, mH_i7, mH_i13, mH_i15, mH_t71, mH_t, mH_lr, mH_l65, mH_l69, mH_l70, mH_l71, mH_l72, mH_l73, mH_l74, mH_l75, mH_c, hk]) rfl rfl (by decide) (by decide) rfl ?_
  try simp (disch := omega) only [mH_t64, mH_r1, mH_r3, mH_r4, mH_r5, mH_r6, mH_r8, mH_r9, mH_r10, mH_r11, mH_r12, mH_r14, mH_i0, mH_i2, mH_i7, mH_i13, mH_i15, mH_t71, mH_t, mH_lr, mH_l65, mH_l69, mH_l70, mH_l71, mH_l72, mH_l73, mH_l74, mH_l75, mH_c, hk]
  refine e_ret hK rfl rfl rfl ?_
  exact ⟨rfl, rfl, rfl⟩
set_option maxRecDepth 10000 in
theorem g_ab1 {A : lg} (hR : Rw (v 266) A) (hI : gI A) (x : Int) : ∀ (m : Nat) (k : Nat), (k + m = gn A) → mv_Ev sc 115 92 [(2, 264), (0, x), (0, lsum (fun i => ((gl A i).1 : Int)) k), (0, (k : Int))] [] c (mH h v) (mv_Rd (0, cch A) c (mH h v)) := by
  intro m
  induction m with
  | zero =>
    intro k hk
    have b1 := hI.1
    have b2 := hI.2.1
    have r0 := hR.1
    have r1 := hR.2.1
    have hK : (mv_m 115).1 = kc_Mod_about := rfl
    refine e_step (pc' := 93) hK rfl rfl rfl ?_
    refine e_step (pc' := 94) hK rfl rfl rfl ?_
    refine e_getR (ci := 4) (k := 3) (pc' := 97) hK rfl (by simp (disch := omega) only [mH_t64, mH_r1, mH_r3, mH_r4, mH_r5, mH_r6, mH_r8, mH_r9, mH_r10, mH_r11, mH_r12, mH_r14, mH_i0, mH_i2, mH_i7, mH_i13, mH_i15, mH_t71, mH_t, mH_lr, mH_l65, mH_l69, mH_l70, mH_l71, mH_l72, mH_l73, mH_l74, mH_l75, mH_c, r0]) rfl rfl (by decide) (by decide) (by (try simp (disch := omega) only [mH_t64, mH_r1, mH_r3, mH_r4, mH_r5, mH_r6, mH_r8, mH_r9, mH_r10, mH_r11, mH_r12, mH_r14, mH_i0, mH_i2, mH_i7, mH_i13, mH_i15, mH_t71, mH_t, mH_lr, mH_l65, mH_l69, mH_l70, mH_l71, mH_l72, mH_l73, mH_l74, mH_l75, mH_c, r0]); omega) rfl ?_
    try simp (disch := omega) only [mH_t64, mH_r1, mH_r3, mH_r4, mH_r5, mH_r6, mH_r8, mH_r9, mH_r10, mH_r11, mH_r12, mH_r14, mH_i0, mH_i2, mH_i7, mH_i13, mH_i15, mH_t71, mH_t, mH_lr, mH_l65, mH_l69, mH_l70, mH_l71, mH_l72, mH_l73, mH_l74, mH_l75, mH_c, r0]
    refine e_step (pc' := 98) hK rfl rfl rfl ?_
    refine e_iald (pc' := 99) hK rfl (by simp (disch := omega) only [mH_t64, mH_r1, mH_r3, mH_r4, mH_r5, mH_r6, mH_r8, mH_r9, mH_r10, mH_r11, mH_r12, mH_r14, mH_i0, mH_i2, mH_i7, mH_i13, mH_i15, mH_t71, mH_t, mH_lr, mH_l65, mH_l69, mH_l70, mH_l71, mH_l72, mH_l73, mH_l74, mH_l75, mH_c, r0]) (by omega) (by (try simp (disch := omega) only [mH_t64, mH_r1, mH_r3, mH_r4, mH_r5, mH_r6, mH_r8, mH_r9, mH_r10, mH_r11, mH_r12, mH_r14, mH_i0, mH_i2, mH_i7, mH_i13, mH_i15, mH_t71, mH_t, mH_lr, mH_l65, mH_l69, mH_l70, mH_l71, mH_l72, mH_l73, mH_l74, mH_l75, mH_c, r0]); omega) rfl ?_
    try simp (disch := omega) only [mH_t64, mH_r1, mH_r3, mH_r4, mH_r5, mH_r6, mH_r8, mH_r9, mH_r10, mH_r11, mH_r12, mH_r14, mH_i0, mH_i2, mH_i7, mH_i13, mH_i15, mH_t71, mH_t, mH_lr, mH_l65, mH_l69, mH_l70, mH_l71, mH_l72, mH_l73, mH_l74, mH_l75, mH_c, r0]
    refine e_icmp (t := 120) (pc' := 102) hK rfl (by omega) (by omega) (by decide) rfl (fun hb99 => ?_) (fun hb99 => ?_)
    · replace hb99 := cq_ge.1.mp hb99
      refine e_step (pc' := 121) hK rfl rfl rfl ?_
      refine e_ret hK rfl rfl rfl ?_
      refine ⟨?_, rfl, rfl⟩
      congr 1
      rw [show k = gn A from by omega]
      rfl
    · replace hb99 := cq_ge.2.mp hb99
      exfalso; first | omega | exact absurd trivial (by assumption)
  | succ m ih =>
    intro k hk
    have b1 := hI.1
    have b2 := hI.2.1
    have r0 := hR.1
    have r1 := hR.2.1
    have hK : (mv_m 115).1 = kc_Mod_about := rfl
    refine e_step (pc' := 93) hK rfl rfl rfl ?_
    refine e_step (pc' := 94) hK rfl rfl rfl ?_
    refine e_getR (ci := 4) (k := 3) (pc' := 97) hK rfl (by simp (disch := omega) only [mH_t64, mH_r1, mH_r3, mH_r4, mH_r5, mH_r6, mH_r8, mH_r9, mH_r10, mH_r11, mH_r12, mH_r14, mH_i0, mH_i2, mH_i7, mH_i13, mH_i15, mH_t71, mH_t, mH_lr, mH_l65, mH_l69, mH_l70, mH_l71, mH_l72, mH_l73, mH_l74, mH_l75, mH_c, r0]) rfl rfl (by decide) (by decide) (by (try simp (disch := omega) only [mH_t64, mH_r1, mH_r3, mH_r4, mH_r5, mH_r6, mH_r8, mH_r9, mH_r10, mH_r11, mH_r12, mH_r14, mH_i0, mH_i2, mH_i7, mH_i13, mH_i15, mH_t71, mH_t, mH_lr, mH_l65, mH_l69, mH_l70, mH_l71, mH_l72, mH_l73, mH_l74, mH_l75, mH_c, r0]); omega) rfl ?_
    try simp (disch := omega) only [mH_t64, mH_r1, mH_r3, mH_r4, mH_r5, mH_r6, mH_r8, mH_r9, mH_r10, mH_r11, mH_r12, mH_r14, mH_i0, mH_i2, mH_i7, mH_i13, mH_i15, mH_t71, mH_t, mH_lr, mH_l65, mH_l69, mH_l70, mH_l71, mH_l72, mH_l73, mH_l74, mH_l75, mH_c, r0]
    refine e_step (pc' := 98) hK rfl rfl rfl ?_
    refine e_iald (pc' := 99) hK rfl (by simp (disch := omega) only [mH_t64, mH_r1, mH_r3, mH_r4, mH_r5, mH_r6, mH_r8, mH_r9, mH_r10, mH_r11, mH_r12, mH_r14, mH_i0, mH_i2, mH_i7, mH_i13, mH_i15, mH_t71, mH_t, mH_lr, mH_l65, mH_l69, mH_l70, mH_l71, mH_l72, mH_l73, mH_l74, mH_l75, mH_c, r0]) (by omega) (by (try simp (disch := omega) only [mH_t64, mH_r1, mH_r3, mH_r4, mH_r5, mH_r6, mH_r8, mH_r9, mH_r10, mH_r11, mH_r12, mH_r14, mH_i0, mH_i2, mH_i7, mH_i13, mH_i15, mH_t71, mH_t, mH_lr, mH_l65, mH_l69, mH_l70, mH_l71, mH_l72, mH_l73, mH_l74, mH_l75, mH_c, r0]); omega) rfl ?_
    try simp (disch := omega) only [mH_t64, mH_r1, mH_r3, mH_r4, mH_r5, mH_r6, mH_r8, mH_r9, mH_r10, mH_r11, mH_r12, mH_r14, mH_i0, mH_i2, mH_i7, mH_i13, mH_i15, mH_t71, mH_t, mH_lr, mH_l65, mH_l69, mH_l70, mH_l71, mH_l72, mH_l73, mH_l74, mH_l75, mH_c, r0]
    refine e_icmp (t := 120) (pc' := 102) hK rfl (by omega) (by omega) (by decide) rfl (fun hb99 => ?_) (fun hb99 => ?_)
    · replace hb99 := cq_ge.1.mp hb99
      exfalso; first | omega | exact absurd trivial (by assumption)
    · replace hb99 := cq_ge.2.mp hb99
      have lr := (hR.2.2.1 (k : Int) (by omega) (by omega)).1.1
      have lb := xn_b (gLok hI (show (0 : Int) ≤ k by omega) (by omega))
      refine e_step (pc' := 103) hK rfl rfl rfl ?_
      refine e_step (pc' := 104) hK rfl rfl rfl ?_
      refine e_getR (ci := 4) (k := 3) (pc' := 107) hK rfl (by simp (disch := omega) only [mH_t64, mH_r1, mH_r3, mH_r4, mH_r5, mH_r6, mH_r8, mH_r9, mH_r10, mH_r11, mH_r12, mH_r14, mH_i0, mH_i2, mH_i7, mH_i13, mH_i15, mH_t71, mH_t, mH_lr, mH_l65, mH_l69, mH_l70, mH_l71, mH_l72, mH_l73, mH_l74, mH_l75, mH_c, r0, lr]) rfl rfl (by decide) (by decide) (by (try simp (disch := omega) only [mH_t64, mH_r1, mH_r3, mH_r4, mH_r5, mH_r6, mH_r8, mH_r9, mH_r10, mH_r11, mH_r12, mH_r14, mH_i0, mH_i2, mH_i7, mH_i13, mH_i15, mH_t71, mH_t, mH_lr, mH_l65, mH_l69, mH_l70, mH_l71, mH_l72, mH_l73, mH_l74, mH_l75, mH_c, r0, lr]); omega) rfl ?_
      try simp (disch := omega) only [mH_t64, mH_r1, mH_r3, mH_r4, mH_r5, mH_r6, mH_r8, mH_r9, mH_r10, mH_r11, mH_r12, mH_r14, mH_i0, mH_i2, mH_i7, mH_i13, mH_i15, mH_t71, mH_t, mH_lr, mH_l65, mH_l69, mH_l70, mH_l71, mH_l72, mH_l73, mH_l74, mH_l75, mH_c, r0, lr]
      refine e_step (pc' := 108) hK rfl rfl rfl ?_
      refine e_cRS1 (z := 116) (pc' := 111) hK rfl rfl rfl (Nat.le_of_ble_eq_true rfl) (Nat.le_of_ble_eq_true rfl) (m_lineAt (k : Int)) (by decide) rfl ?_
      try simp (disch := omega) only [mH_t64, mH_r1, mH_r3, mH_r4, mH_r5, mH_r6, mH_r8, mH_r9, mH_r10, mH_r11, mH_r12, mH_r14, mH_i0, mH_i2, mH_i7, mH_i13, mH_i15, mH_t71, mH_t, mH_lr, mH_l65, mH_l69, mH_l70, mH_l71, mH_l72, mH_l73, mH_l74, mH_l75, mH_c, r0, lr]
      refine e_iald (pc' := 112) hK rfl (by simp (disch := omega) only [mH_t64, mH_r1, mH_r3, mH_r4, mH_r5, mH_r6, mH_r8, mH_r9, mH_r10, mH_r11, mH_r12, mH_r14, mH_i0, mH_i2, mH_i7, mH_i13, mH_i15, mH_t71, mH_t, mH_lr, mH_l65, mH_l69, mH_l70, mH_l71, mH_l72, mH_l73, mH_l74, mH_l75, mH_c, r0, lr]) (by omega) (by (try simp (disch := omega) only [mH_t64, mH_r1, mH_r3, mH_r4, mH_r5, mH_r6, mH_r8, mH_r9, mH_r10, mH_r11, mH_r12, mH_r14, mH_i0, mH_i2, mH_i7, mH_i13, mH_i15, mH_t71, mH_t, mH_lr, mH_l65, mH_l69, mH_l70, mH_l71, mH_l72, mH_l73, mH_l74, mH_l75, mH_c, r0, lr]); omega) rfl ?_
      try simp (disch := omega) only [mH_t64, mH_r1, mH_r3, mH_r4, mH_r5, mH_r6, mH_r8, mH_r9, mH_r10, mH_r11, mH_r12, mH_r14, mH_i0, mH_i2, mH_i7, mH_i13, mH_i15, mH_t71, mH_t, mH_lr, mH_l65, mH_l69, mH_l70, mH_l71, mH_l72, mH_l73, mH_l74, mH_l75, mH_c, r0, lr]
      refine e_step (pc' := 113) hK rfl rfl rfl ?_
      refine e_step (pc' := 114) hK rfl rfl rfl ?_
      try simp only [List.set_cons_zero, List.set_cons_succ]
      refine e_step (pc' := 117) hK rfl rfl rfl ?_
      try simp only [List.set_cons_zero, List.set_cons_succ]
      refine e_goto (t := 92) hK rfl (by decide) ?_
      have e : lsum (fun i => ((gl A i).1 : Int)) k + ((gL A (k : Int)).1 : Int) = lsum (fun i => ((gl A i).1 : Int)) (k + 1) := by { show _ = _ + ((gl A (k : Int)).1 : Int); rw [gl_L (by omega) (by omega)] }
      rw [e]
      exact ih (k + 1) (by omega)
set_option maxRecDepth 10000 in
theorem g_ab2 {A : lg} (hR : Rw (v 266) A) (hI : gI A) (x s : Int) (hx : mv_i x) (hs : (x = 5 ∧ s = 3) ∨ (x ≠ 5 ∧ s = 4)) : ∀ (m : Nat) (k : Nat), (k + m = gT A) → mv_Ev sc 115 151 [(2, 264), (0, x), (0, lsum (fun t => csl A t s) k), (0, (k : Int))] [] c (mH h v) (mv_Rd (0, csls A s) c (mH h v)) := by
  intro m
  induction m with
  | zero =>
    intro k hk
    have b1 := hI.1
    have b2 := hI.2.1
    have r0 := hR.1
    have r1 := hR.2.1
    have hK : (mv_m 115).1 = kc_Mod_about := rfl
    refine e_step (pc' := 152) hK rfl rfl rfl ?_
    refine e_step (pc' := 153) hK rfl rfl rfl ?_
    refine e_getR (ci := 4) (k := 3) (pc' := 156) hK rfl (by simp (disch := omega) only [mH_t64, mH_r1, mH_r3, mH_r4, mH_r5, mH_r6, mH_r8, mH_r9, mH_r10, mH_r11, mH_r12, mH_r14, mH_i0, mH_i2, mH_i7, mH_i13, mH_i15, mH_t71, mH_t, mH_lr, mH_l65, mH_l69, mH_l70, mH_l71, mH_l72, mH_l73, mH_l74, mH_l75, mH_c, r1]) rfl rfl (by decide) (by decide) (by (try simp (disch := omega) only [mH_t64, mH_r1, mH_r3, mH_r4, mH_r5, mH_r6, mH_r8, mH_r9, mH_r10, mH_r11, mH_r12, mH_r14, mH_i0, mH_i2, mH_i7, mH_i13, mH_i15, mH_t71, mH_t, mH_lr, mH_l65, mH_l69, mH_l70, mH_l71, mH_l72, mH_l73, mH_l74, mH_l75, mH_c, r1]); omega) rfl ?_
    try simp (disch := omega) only [mH_t64, mH_r1, mH_r3, mH_r4, mH_r5, mH_r6, mH_r8, mH_r9, mH_r10, mH_r11, mH_r12, mH_r14, mH_i0, mH_i2, mH_i7, mH_i13, mH_i15, mH_t71, mH_t, mH_lr, mH_l65, mH_l69, mH_l70, mH_l71, mH_l72, mH_l73, mH_l74, mH_l75, mH_c, r1]
    refine e_step (pc' := 157) hK rfl rfl rfl ?_
    refine e_iald (pc' := 158) hK rfl (by simp (disch := omega) only [mH_t64, mH_r1, mH_r3, mH_r4, mH_r5, mH_r6, mH_r8, mH_r9, mH_r10, mH_r11, mH_r12, mH_r14, mH_i0, mH_i2, mH_i7, mH_i13, mH_i15, mH_t71, mH_t, mH_lr, mH_l65, mH_l69, mH_l70, mH_l71, mH_l72, mH_l73, mH_l74, mH_l75, mH_c, r1]) (by omega) (by (try simp (disch := omega) only [mH_t64, mH_r1, mH_r3, mH_r4, mH_r5, mH_r6, mH_r8, mH_r9, mH_r10, mH_r11, mH_r12, mH_r14, mH_i0, mH_i2, mH_i7, mH_i13, mH_i15, mH_t71, mH_t, mH_lr, mH_l65, mH_l69, mH_l70, mH_l71, mH_l72, mH_l73, mH_l74, mH_l75, mH_c, r1]); omega) rfl ?_
    try simp (disch := omega) only [mH_t64, mH_r1, mH_r3, mH_r4, mH_r5, mH_r6, mH_r8, mH_r9, mH_r10, mH_r11, mH_r12, mH_r14, mH_i0, mH_i2, mH_i7, mH_i13, mH_i15, mH_t71, mH_t, mH_lr, mH_l65, mH_l69, mH_l70, mH_l71, mH_l72, mH_l73, mH_l74, mH_l75, mH_c, r1]
    refine e_icmp (t := 188) (pc' := 161) hK rfl (by omega) (by omega) (by decide) rfl (fun hb158 => ?_) (fun hb158 => ?_)
    · replace hb158 := cq_ge.1.mp hb158
      refine e_step (pc' := 189) hK rfl rfl rfl ?_
      refine e_ret hK rfl rfl rfl ?_
      refine ⟨?_, rfl, rfl⟩
      congr 1
      rw [show k = gT A from by omega]
      rfl
    · replace hb158 := cq_ge.2.mp hb158
      exfalso; first | omega | exact absurd trivial (by assumption)
  | succ m ih =>
    intro k hk
    have b1 := hI.1
    have b2 := hI.2.1
    have r0 := hR.1
    have r1 := hR.2.1
    have hK : (mv_m 115).1 = kc_Mod_about := rfl
    refine e_step (pc' := 152) hK rfl rfl rfl ?_
    refine e_step (pc' := 153) hK rfl rfl rfl ?_
    refine e_getR (ci := 4) (k := 3) (pc' := 156) hK rfl (by simp (disch := omega) only [mH_t64, mH_r1, mH_r3, mH_r4, mH_r5, mH_r6, mH_r8, mH_r9, mH_r10, mH_r11, mH_r12, mH_r14, mH_i0, mH_i2, mH_i7, mH_i13, mH_i15, mH_t71, mH_t, mH_lr, mH_l65, mH_l69, mH_l70, mH_l71, mH_l72, mH_l73, mH_l74, mH_l75, mH_c, r1]) rfl rfl (by decide) (by decide) (by (try simp (disch := omega) only [mH_t64, mH_r1, mH_r3, mH_r4, mH_r5, mH_r6, mH_r8, mH_r9, mH_r10, mH_r11, mH_r12, mH_r14, mH_i0, mH_i2, mH_i7, mH_i13, mH_i15, mH_t71, mH_t, mH_lr, mH_l65, mH_l69, mH_l70, mH_l71, mH_l72, mH_l73, mH_l74, mH_l75, mH_c, r1]); omega) rfl ?_
    try simp (disch := omega) only [mH_t64, mH_r1, mH_r3, mH_r4, mH_r5, mH_r6, mH_r8, mH_r9, mH_r10, mH_r11, mH_r12, mH_r14, mH_i0, mH_i2, mH_i7, mH_i13, mH_i15, mH_t71, mH_t, mH_lr, mH_l65, mH_l69, mH_l70, mH_l71, mH_l72, mH_l73, mH_l74, mH_l75, mH_c, r1]
    refine e_step (pc' := 157) hK rfl rfl rfl ?_
    refine e_iald (pc' := 158) hK rfl (by simp (disch := omega) only [mH_t64, mH_r1, mH_r3, mH_r4, mH_r5, mH_r6, mH_r8, mH_r9, mH_r10, mH_r11, mH_r12, mH_r14, mH_i0, mH_i2, mH_i7, mH_i13, mH_i15, mH_t71, mH_t, mH_lr, mH_l65, mH_l69, mH_l70, mH_l71, mH_l72, mH_l73, mH_l74, mH_l75, mH_c, r1]) (by omega) (by (try simp (disch := omega) only [mH_t64, mH_r1, mH_r3, mH_r4, mH_r5, mH_r6, mH_r8, mH_r9, mH_r10, mH_r11, mH_r12, mH_r14, mH_i0, mH_i2, mH_i7, mH_i13, mH_i15, mH_t71, mH_t, mH_lr, mH_l65, mH_l69, mH_l70, mH_l71, mH_l72, mH_l73, mH_l74, mH_l75, mH_c, r1]); omega) rfl ?_
    try simp (disch := omega) only [mH_t64, mH_r1, mH_r3, mH_r4, mH_r5, mH_r6, mH_r8, mH_r9, mH_r10, mH_r11, mH_r12, mH_r14, mH_i0, mH_i2, mH_i7, mH_i13, mH_i15, mH_t71, mH_t, mH_lr, mH_l65, mH_l69, mH_l70, mH_l71, mH_l72, mH_l73, mH_l74, mH_l75, mH_c, r1]
    refine e_icmp (t := 188) (pc' := 161) hK rfl (by omega) (by omega) (by decide) rfl (fun hb158 => ?_) (fun hb158 => ?_)
    · replace hb158 := cq_ge.1.mp hb158
      exfalso; first | omega | exact absurd trivial (by assumption)
    · replace hb158 := cq_ge.2.mp hb158
      refine e_step (pc' := 162) hK rfl rfl rfl ?_
      refine e_step (pc' := 163) hK rfl rfl rfl ?_
      refine e_getR (ci := 4) (k := 3) (pc' := 166) hK rfl (by simp (disch := omega) only [mH_t64, mH_r1, mH_r3, mH_r4, mH_r5, mH_r6, mH_r8, mH_r9, mH_r10, mH_r11, mH_r12, mH_r14, mH_i0, mH_i2, mH_i7, mH_i13, mH_i15, mH_t71, mH_t, mH_lr, mH_l65, mH_l69, mH_l70, mH_l71, mH_l72, mH_l73, mH_l74, mH_l75, mH_c, r1]) rfl rfl (by decide) (by decide) (by (try simp (disch := omega) only [mH_t64, mH_r1, mH_r3, mH_r4, mH_r5, mH_r6, mH_r8, mH_r9, mH_r10, mH_r11, mH_r12, mH_r14, mH_i0, mH_i2, mH_i7, mH_i13, mH_i15, mH_t71, mH_t, mH_lr, mH_l65, mH_l69, mH_l70, mH_l71, mH_l72, mH_l73, mH_l74, mH_l75, mH_c, r1]); omega) rfl ?_
      try simp (disch := omega) only [mH_t64, mH_r1, mH_r3, mH_r4, mH_r5, mH_r6, mH_r8, mH_r9, mH_r10, mH_r11, mH_r12, mH_r14, mH_i0, mH_i2, mH_i7, mH_i13, mH_i15, mH_t71, mH_t, mH_lr, mH_l65, mH_l69, mH_l70, mH_l71, mH_l72, mH_l73, mH_l74, mH_l75, mH_c, r1]
      refine e_step (pc' := 167) hK rfl rfl rfl ?_
      refine e_step (pc' := 168) hK rfl rfl rfl ?_
      refine e_step (pc' := 169) hK rfl rfl rfl ?_
      refine e_icmp (t := 176) (pc' := 172) hK rfl (by omega) (by omega) (by decide) rfl (fun hb169 => ?_) (fun hb169 => ?_)
      · replace hb169 := cq_ne.1.mp hb169
        refine e_step (pc' := 177) hK rfl rfl rfl ?_
        have es : s = 4 := by omega
        subst es
        refine e_cRS3 (z := 132) (pc' := 180) hK rfl rfl rfl (Nat.le_of_ble_eq_true rfl) (Nat.le_of_ble_eq_true rfl) (m_slots 266 (by omega) hR hI (k : Int) (by omega) (by omega) 4 (by omega)) (by decide) rfl ?_
        try simp (disch := omega) only [mH_t64, mH_r1, mH_r3, mH_r4, mH_r5, mH_r6, mH_r8, mH_r9, mH_r10, mH_r11, mH_r12, mH_r14, mH_i0, mH_i2, mH_i7, mH_i13, mH_i15, mH_t71, mH_t, mH_lr, mH_l65, mH_l69, mH_l70, mH_l71, mH_l72, mH_l73, mH_l74, mH_l75, mH_c, r1]
        refine e_step (pc' := 181) hK rfl rfl rfl ?_
        refine e_step (pc' := 182) hK rfl rfl rfl ?_
        try simp only [List.set_cons_zero, List.set_cons_succ]
        refine e_step (pc' := 185) hK rfl rfl rfl ?_
        try simp only [List.set_cons_zero, List.set_cons_succ]
        refine e_goto (t := 151) hK rfl (by decide) ?_
        exact ih (k + 1) (by omega)
      · replace hb169 := cq_ne.2.mp hb169
        refine e_step (pc' := 173) hK rfl rfl rfl ?_
        refine e_goto (t := 177) hK rfl (by decide) ?_
        have es : s = 3 := by omega
        subst es
        refine e_cRS3 (z := 132) (pc' := 180) hK rfl rfl rfl (Nat.le_of_ble_eq_true rfl) (Nat.le_of_ble_eq_true rfl) (m_slots 266 (by omega) hR hI (k : Int) (by omega) (by omega) 3 (by omega)) (by decide) rfl ?_
        try simp (disch := omega) only [mH_t64, mH_r1, mH_r3, mH_r4, mH_r5, mH_r6, mH_r8, mH_r9, mH_r10, mH_r11, mH_r12, mH_r14, mH_i0, mH_i2, mH_i7, mH_i13, mH_i15, mH_t71, mH_t, mH_lr, mH_l65, mH_l69, mH_l70, mH_l71, mH_l72, mH_l73, mH_l74, mH_l75, mH_c, r1]
        refine e_step (pc' := 181) hK rfl rfl rfl ?_
        refine e_step (pc' := 182) hK rfl rfl rfl ?_
        try simp only [List.set_cons_zero, List.set_cons_succ]
        refine e_step (pc' := 185) hK rfl rfl rfl ?_
        try simp only [List.set_cons_zero, List.set_cons_succ]
        refine e_goto (t := 151) hK rfl (by decide) ?_
        exact ih (k + 1) (by omega)
set_option maxRecDepth 10000 in
theorem g_about {W : wt} (hM : MdA v W) (x : Int) (hx : mv_i x) : mv_Cl sc q_Mod_about [(2, 264), (0, x)] c (mH h v) (fun r c' h' => r = (0, (sp_about W x).2.1) ∧ c' = c ∧ ∃ w, h' = mH h w ∧ MdA w (sp_about W x).2.2 ∧ w 264 0 = (sp_about W x).1) := by
  have hM0 := hM
  obtain ⟨hTx, hR, ⟨hI, bn, bT⟩, hH, hz, hSv⟩ := hM
  have r0 := hR.1
  have r1 := hR.2.1
  show mv_Ev sc 115 0 [(2, 264), (0, x), (5, 0), (5, 0)] [] c (mH h v) _
  have hK : (mv_m 115).1 = kc_Mod_about := rfl
  refine e_step (pc' := 1) hK rfl rfl rfl ?_
  refine e_step (pc' := 2) hK rfl rfl rfl ?_
  refine e_i2l (pc' := 3) hK rfl (by first | omega | exact bo_i _) rfl ?_
  refine e_step (pc' := 4) hK rfl rfl rfl ?_
  show mv_Ev _ _ 4 _ ((1, (0 : Int)) :: _) _ _ _
  refine e_step (pc' := 7) hK rfl rfl rfl ?_
  refine e_cRS3 (z := 109) (pc' := 10) hK rfl rfl rfl (Nat.le_of_ble_eq_true rfl) (Nat.le_of_ble_eq_true rfl) (m_in x 0 7 (by omega) (by omega) (by omega)) (by decide) rfl ?_
  try simp (disch := omega) only [mH_t64, mH_r1, mH_r3, mH_r4, mH_r5, mH_r6, mH_r8, mH_r9, mH_r10, mH_r11, mH_r12, mH_r14, mH_i0, mH_i2, mH_i7, mH_i13, mH_i15, mH_t71, mH_t, mH_lr, mH_l65, mH_l69, mH_l70, mH_l71, mH_l72, mH_l73, mH_l74, mH_l75, mH_c]
  refine e_if (t := 17) (pc' := 13) hK rfl (by first | omega | exact bo_i _) (by decide) rfl (fun hb10 => ?_) (fun hb10 => ?_)
  · replace hb10 := cq_eq.1.mp hb10
    try simp only [bo_0, Bool.not_eq_false] at hb10
    simp only [Bool.and_eq_false_iff, decide_eq_false_iff_not] at hb10
    refine e_step (pc' := 18) hK rfl rfl rfl ?_
    refine e_cQV2 (z := 110) hK rfl rfl (by first | (simp (disch := omega) only [mH_t64, mH_r1, mH_r3, mH_r4, mH_r5, mH_r6, mH_r8, mH_r9, mH_r10, mH_r11, mH_r12, mH_r14, mH_i0, mH_i2, mH_i7, mH_i13, mH_i15, mH_t71, mH_t, mH_lr, mH_l65, mH_l69, mH_l70, mH_l71, mH_l72, mH_l73, mH_l74, mH_l75, mH_c]; rfl) | (show _ = 2; assumption) | (show _ = 1; assumption) | (show _ = 0; assumption) | (show _ = 3; assumption) | (show _ = 4; assumption)) rfl (Nat.le_of_ble_eq_true rfl) (Nat.le_of_ble_eq_true rfl) (m_refP 1 (by omega)) ?_
    rintro _ _ _ ⟨rfl, rfl, rfl⟩
    refine ⟨by show (0 : Nat) ≠ 4; decide, ?_⟩
    rw [if_neg (by show ¬ (0 : Nat) = 3; decide)]
    try dsimp only
    have hM1 := hM0.rf 1
    obtain ⟨v1, hv1⟩ : ∃ v1, v1 = gu v 264 (mv_up (v 264) 0 1) := ⟨_, rfl⟩
    rw [← hv1] at hM1 ⊢
    have z1 : v1 264 0 = 1 := by { rw [hv1, gu_s, up_s] }
    have eo1 : ∀ b : Int, b ≠ 264 → v1 b = v b := fun b hb => by { rw [hv1]; exact gu_n hb }
    have ef1 : ∀ k : Int, k ≠ 0 → v1 264 k = v 264 k := fun k hk => by { rw [hv1, gu_s, up_n hk] }
    have hR1 := hM1.2.1
    have ra1 := hR1.1
    have rb1 := hR1.2.1
    clear hv1
    show mv_Ev _ _ 21 _ _ _ _ _
    refine e_if (t := 26) (pc' := 24) hK rfl (by first | omega | exact bo_i _) (by decide) rfl (fun hb21 => ?_) (fun hb21 => ?_)
    · replace hb21 := cq_eq.1.mp hb21
      try simp only [bo_0, Bool.not_eq_false] at hb21
      exfalso; first | omega | exact absurd trivial (by assumption) | (first | omega | exact bo_i _)
    · replace hb21 := cq_eq.2.mp hb21
      try simp only [bo_0, Bool.not_eq_false] at hb21
      refine e_step (pc' := 25) hK rfl rfl rfl ?_
      refine e_ret hK rfl rfl rfl ?_
      have e9 : sp_about W x = (1, 0, W) := by { unfold sp_about; (repeat (first | rw [if_pos (by omega)] | rw [if_neg (by omega)])) }
      rw [e9]
      exact ⟨rfl, rfl, v1, rfl, hM1, z1⟩
  · replace hb10 := cq_eq.2.mp hb10
    try simp only [bo_0, Bool.not_eq_false] at hb10
    simp only [Bool.and_eq_true, decide_eq_true_eq] at hb10
    refine e_step (pc' := 14) hK rfl rfl rfl ?_
    refine e_goto (t := 18) hK rfl (by decide) ?_
    refine e_cQV2 (z := 110) hK rfl rfl (by first | (simp (disch := omega) only [mH_t64, mH_r1, mH_r3, mH_r4, mH_r5, mH_r6, mH_r8, mH_r9, mH_r10, mH_r11, mH_r12, mH_r14, mH_i0, mH_i2, mH_i7, mH_i13, mH_i15, mH_t71, mH_t, mH_lr, mH_l65, mH_l69, mH_l70, mH_l71, mH_l72, mH_l73, mH_l74, mH_l75, mH_c]; rfl) | (show _ = 2; assumption) | (show _ = 1; assumption) | (show _ = 0; assumption) | (show _ = 3; assumption) | (show _ = 4; assumption)) rfl (Nat.le_of_ble_eq_true rfl) (Nat.le_of_ble_eq_true rfl) (m_ref0) ?_
    rintro _ _ _ ⟨rfl, rfl, rfl⟩
    refine ⟨by show (0 : Nat) ≠ 4; decide, ?_⟩
    rw [if_neg (by show ¬ (0 : Nat) = 3; decide)]
    try dsimp only
    have hM1 := hM0.rf 0
    obtain ⟨v1, hv1⟩ : ∃ v1, v1 = gu v 264 (mv_up (v 264) 0 0) := ⟨_, rfl⟩
    rw [← hv1] at hM1 ⊢
    have z1 : v1 264 0 = 0 := by { rw [hv1, gu_s, up_s] }
    have eo1 : ∀ b : Int, b ≠ 264 → v1 b = v b := fun b hb => by { rw [hv1]; exact gu_n hb }
    have ef1 : ∀ k : Int, k ≠ 0 → v1 264 k = v 264 k := fun k hk => by { rw [hv1, gu_s, up_n hk] }
    have hR1 := hM1.2.1
    have ra1 := hR1.1
    have rb1 := hR1.2.1
    clear hv1
    show mv_Ev _ _ 21 _ _ _ _ _
    refine e_if (t := 26) (pc' := 24) hK rfl (by first | omega | exact bo_i _) (by decide) rfl (fun hb21 => ?_) (fun hb21 => ?_)
    · replace hb21 := cq_eq.1.mp hb21
      try simp only [bo_0, Bool.not_eq_false] at hb21
      refine e_step (pc' := 27) hK rfl rfl rfl ?_
      refine e_step (pc' := 28) hK rfl rfl rfl ?_
      try simp only [List.set_cons_zero, List.set_cons_succ]
      refine e_step (pc' := 29) hK rfl rfl rfl ?_
      refine e_tsw (td := 149) hK rfl (by first | omega | exact bo_i _) rfl (by decide) (by decide) (fun hb29 => ?_) (fun j hj hb29 => ?_)
      · skip
        refine e_step (pc' := 150) hK rfl rfl rfl ?_
        refine e_step (pc' := 151) hK rfl rfl rfl ?_
        try simp only [List.set_cons_zero, List.set_cons_succ]
        exfalso; omega
      · skip
        rcases j with _ | j
        · show mv_Ev _ _ 76 _ _ _ _ _
          refine e_step (pc' := 77) hK rfl rfl rfl ?_
          refine e_getR (ci := 4) (k := 3) (pc' := 80) hK rfl (by simp (disch := omega) only [mH_t64, mH_r1, mH_r3, mH_r4, mH_r5, mH_r6, mH_r8, mH_r9, mH_r10, mH_r11, mH_r12, mH_r14, mH_i0, mH_i2, mH_i7, mH_i13, mH_i15, mH_t71, mH_t, mH_lr, mH_l65, mH_l69, mH_l70, mH_l71, mH_l72, mH_l73, mH_l74, mH_l75, mH_c, ra1, rb1]) rfl rfl (by decide) (by decide) (by (try simp (disch := omega) only [mH_t64, mH_r1, mH_r3, mH_r4, mH_r5, mH_r6, mH_r8, mH_r9, mH_r10, mH_r11, mH_r12, mH_r14, mH_i0, mH_i2, mH_i7, mH_i13, mH_i15, mH_t71, mH_t, mH_lr, mH_l65, mH_l69, mH_l70, mH_l71, mH_l72, mH_l73, mH_l74, mH_l75, mH_c, ra1, rb1]); first | omega | exact bo_i _) rfl ?_
          try simp (disch := omega) only [mH_t64, mH_r1, mH_r3, mH_r4, mH_r5, mH_r6, mH_r8, mH_r9, mH_r10, mH_r11, mH_r12, mH_r14, mH_i0, mH_i2, mH_i7, mH_i13, mH_i15, mH_t71, mH_t, mH_lr, mH_l65, mH_l69, mH_l70, mH_l71, mH_l72, mH_l73, mH_l74, mH_l75, mH_c, ra1, rb1]
          refine e_step (pc' := 81) hK rfl rfl rfl ?_
          refine e_iald (pc' := 82) hK rfl (by simp (disch := omega) only [mH_t64, mH_r1, mH_r3, mH_r4, mH_r5, mH_r6, mH_r8, mH_r9, mH_r10, mH_r11, mH_r12, mH_r14, mH_i0, mH_i2, mH_i7, mH_i13, mH_i15, mH_t71, mH_t, mH_lr, mH_l65, mH_l69, mH_l70, mH_l71, mH_l72, mH_l73, mH_l74, mH_l75, mH_c, ra1, rb1]) (by first | omega | exact bo_i _) (by (try simp (disch := omega) only [mH_t64, mH_r1, mH_r3, mH_r4, mH_r5, mH_r6, mH_r8, mH_r9, mH_r10, mH_r11, mH_r12, mH_r14, mH_i0, mH_i2, mH_i7, mH_i13, mH_i15, mH_t71, mH_t, mH_lr, mH_l65, mH_l69, mH_l70, mH_l71, mH_l72, mH_l73, mH_l74, mH_l75, mH_c, ra1, rb1]); first | omega | exact bo_i _) rfl ?_
          try simp (disch := omega) only [mH_t64, mH_r1, mH_r3, mH_r4, mH_r5, mH_r6, mH_r8, mH_r9, mH_r10, mH_r11, mH_r12, mH_r14, mH_i0, mH_i2, mH_i7, mH_i13, mH_i15, mH_t71, mH_t, mH_lr, mH_l65, mH_l69, mH_l70, mH_l71, mH_l72, mH_l73, mH_l74, mH_l75, mH_c, ra1, rb1]
          refine e_ret hK rfl rfl rfl ?_
          have e9 : sp_about W x = (0, ((gn (wA W) : Nat) : Int), W) := by { unfold sp_about; (repeat (first | rw [if_pos (by omega)] | rw [if_neg (by omega)])) }
          rw [e9]
          exact ⟨rfl, rfl, v1, rfl, hM1, z1⟩
        · skip
          rcases j with _ | j
          · show mv_Ev _ _ 83 _ _ _ _ _
            refine e_step (pc' := 84) hK rfl rfl rfl ?_
            refine e_getR (ci := 4) (k := 3) (pc' := 87) hK rfl (by simp (disch := omega) only [mH_t64, mH_r1, mH_r3, mH_r4, mH_r5, mH_r6, mH_r8, mH_r9, mH_r10, mH_r11, mH_r12, mH_r14, mH_i0, mH_i2, mH_i7, mH_i13, mH_i15, mH_t71, mH_t, mH_lr, mH_l65, mH_l69, mH_l70, mH_l71, mH_l72, mH_l73, mH_l74, mH_l75, mH_c, ra1, rb1]) rfl rfl (by decide) (by decide) (by (try simp (disch := omega) only [mH_t64, mH_r1, mH_r3, mH_r4, mH_r5, mH_r6, mH_r8, mH_r9, mH_r10, mH_r11, mH_r12, mH_r14, mH_i0, mH_i2, mH_i7, mH_i13, mH_i15, mH_t71, mH_t, mH_lr, mH_l65, mH_l69, mH_l70, mH_l71, mH_l72, mH_l73, mH_l74, mH_l75, mH_c, ra1, rb1]); first | omega | exact bo_i _) rfl ?_
            try simp (disch := omega) only [mH_t64, mH_r1, mH_r3, mH_r4, mH_r5, mH_r6, mH_r8, mH_r9, mH_r10, mH_r11, mH_r12, mH_r14, mH_i0, mH_i2, mH_i7, mH_i13, mH_i15, mH_t71, mH_t, mH_lr, mH_l65, mH_l69, mH_l70, mH_l71, mH_l72, mH_l73, mH_l74, mH_l75, mH_c, ra1, rb1]
            refine e_step (pc' := 88) hK rfl rfl rfl ?_
            refine e_iald (pc' := 89) hK rfl (by simp (disch := omega) only [mH_t64, mH_r1, mH_r3, mH_r4, mH_r5, mH_r6, mH_r8, mH_r9, mH_r10, mH_r11, mH_r12, mH_r14, mH_i0, mH_i2, mH_i7, mH_i13, mH_i15, mH_t71, mH_t, mH_lr, mH_l65, mH_l69, mH_l70, mH_l71, mH_l72, mH_l73, mH_l74, mH_l75, mH_c, ra1, rb1]) (by first | omega | exact bo_i _) (by (try simp (disch := omega) only [mH_t64, mH_r1, mH_r3, mH_r4, mH_r5, mH_r6, mH_r8, mH_r9, mH_r10, mH_r11, mH_r12, mH_r14, mH_i0, mH_i2, mH_i7, mH_i13, mH_i15, mH_t71, mH_t, mH_lr, mH_l65, mH_l69, mH_l70, mH_l71, mH_l72, mH_l73, mH_l74, mH_l75, mH_c, ra1, rb1]); first | omega | exact bo_i _) rfl ?_
            try simp (disch := omega) only [mH_t64, mH_r1, mH_r3, mH_r4, mH_r5, mH_r6, mH_r8, mH_r9, mH_r10, mH_r11, mH_r12, mH_r14, mH_i0, mH_i2, mH_i7, mH_i13, mH_i15, mH_t71, mH_t, mH_lr, mH_l65, mH_l69, mH_l70, mH_l71, mH_l72, mH_l73, mH_l74, mH_l75, mH_c, ra1, rb1]
            refine e_ret hK rfl rfl rfl ?_
            have e9 : sp_about W x = (0, ((gT (wA W) : Nat) : Int), W) := by { unfold sp_about; (repeat (first | rw [if_pos (by omega)] | rw [if_neg (by omega)])) }
            rw [e9]
            exact ⟨rfl, rfl, v1, rfl, hM1, z1⟩
          · skip
            rcases j with _ | j
            · show mv_Ev _ _ 90 _ _ _ _ _
              refine e_step (pc' := 91) hK rfl rfl rfl ?_
              refine e_step (pc' := 92) hK rfl rfl rfl ?_
              try simp only [List.set_cons_zero, List.set_cons_succ]
              refine (g_ab1 hR1 hI x (gn (wA W)) 0 (by omega)).mono (fun r c' h' hq => ?_)
              obtain ⟨rfl, rfl, rfl⟩ := hq
              have e9 : sp_about W x = (0, cch (wA W), W) := by { unfold sp_about; (repeat (first | rw [if_pos (by omega)] | rw [if_neg (by omega)])) }
              rw [e9]
              exact ⟨rfl, rfl, v1, rfl, hM1, z1⟩
            · skip
              rcases j with _ | j
              · show mv_Ev _ _ 122 _ _ _ _ _
                refine e_step (pc' := 123) hK rfl rfl rfl ?_
                refine e_step (pc' := 124) hK rfl rfl rfl ?_
                refine e_getR (ci := 4) (k := 3) (pc' := 127) hK rfl (by simp (disch := omega) only [mH_t64, mH_r1, mH_r3, mH_r4, mH_r5, mH_r6, mH_r8, mH_r9, mH_r10, mH_r11, mH_r12, mH_r14, mH_i0, mH_i2, mH_i7, mH_i13, mH_i15, mH_t71, mH_t, mH_lr, mH_l65, mH_l69, mH_l70, mH_l71, mH_l72, mH_l73, mH_l74, mH_l75, mH_c, ra1, rb1]) rfl rfl (by decide) (by decide) (by (try simp (disch := omega) only [mH_t64, mH_r1, mH_r3, mH_r4, mH_r5, mH_r6, mH_r8, mH_r9, mH_r10, mH_r11, mH_r12, mH_r14, mH_i0, mH_i2, mH_i7, mH_i13, mH_i15, mH_t71, mH_t, mH_lr, mH_l65, mH_l69, mH_l70, mH_l71, mH_l72, mH_l73, mH_l74, mH_l75, mH_c, ra1, rb1]); first | omega | exact bo_i _) rfl ?_
                try simp (disch := omega) only [mH_t64, mH_r1, mH_r3, mH_r4, mH_r5, mH_r6, mH_r8, mH_r9, mH_r10, mH_r11, mH_r12, mH_r14, mH_i0, mH_i2, mH_i7, mH_i13, mH_i15, mH_t71, mH_t, mH_lr, mH_l65, mH_l69, mH_l70, mH_l71, mH_l72, mH_l73, mH_l74, mH_l75, mH_c, ra1, rb1]
                refine e_cQV2 (z := 117) hK rfl rfl (by first | (simp (disch := omega) only [mH_t64, mH_r1, mH_r3, mH_r4, mH_r5, mH_r6, mH_r8, mH_r9, mH_r10, mH_r11, mH_r12, mH_r14, mH_i0, mH_i2, mH_i7, mH_i13, mH_i15, mH_t71, mH_t, mH_lr, mH_l65, mH_l69, mH_l70, mH_l71, mH_l72, mH_l73, mH_l74, mH_l75, mH_c, ra1, rb1]; rfl) | (show _ = 2; assumption) | (show _ = 1; assumption) | (show _ = 0; assumption) | (show _ = 3; assumption) | (show _ = 4; assumption)) rfl (Nat.le_of_ble_eq_true rfl) (Nat.le_of_ble_eq_true rfl) (m_costLines 266 (by omega) hR1 hI) ?_
                rintro _ _ _ ⟨rfl, rfl, w, rfl, hw⟩
                refine ⟨by show (0 : Nat) ≠ 4; decide, ?_⟩
                rw [if_neg (by show ¬ (0 : Nat) = 3; decide)]
                try dsimp only
                show mv_Ev _ _ 130 _ _ _ _ _
                refine e_ret hK rfl rfl rfl ?_
                have e9 : sp_about W x = (0, cols (wA W), W) := by { unfold sp_about; (repeat (first | rw [if_pos (by omega)] | rw [if_neg (by omega)])) }
                rw [e9]
                exact ⟨rfl, rfl, w, rfl, hM1.ms hw, (congrFun (hw 264 (by omega) (by omega) (by omega)) 0).trans z1⟩
              · skip
                rcases j with _ | j
                · show mv_Ev _ _ 131 _ _ _ _ _
                  refine e_step (pc' := 132) hK rfl rfl rfl ?_
                  refine e_step (pc' := 133) hK rfl rfl rfl ?_
                  refine e_getR (ci := 4) (k := 3) (pc' := 136) hK rfl (by simp (disch := omega) only [mH_t64, mH_r1, mH_r3, mH_r4, mH_r5, mH_r6, mH_r8, mH_r9, mH_r10, mH_r11, mH_r12, mH_r14, mH_i0, mH_i2, mH_i7, mH_i13, mH_i15, mH_t71, mH_t, mH_lr, mH_l65, mH_l69, mH_l70, mH_l71, mH_l72, mH_l73, mH_l74, mH_l75, mH_c, ra1, rb1]) rfl rfl (by decide) (by decide) (by (try simp (disch := omega) only [mH_t64, mH_r1, mH_r3, mH_r4, mH_r5, mH_r6, mH_r8, mH_r9, mH_r10, mH_r11, mH_r12, mH_r14, mH_i0, mH_i2, mH_i7, mH_i13, mH_i15, mH_t71, mH_t, mH_lr, mH_l65, mH_l69, mH_l70, mH_l71, mH_l72, mH_l73, mH_l74, mH_l75, mH_c, ra1, rb1]); first | omega | exact bo_i _) rfl ?_
                  try simp (disch := omega) only [mH_t64, mH_r1, mH_r3, mH_r4, mH_r5, mH_r6, mH_r8, mH_r9, mH_r10, mH_r11, mH_r12, mH_r14, mH_i0, mH_i2, mH_i7, mH_i13, mH_i15, mH_t71, mH_t, mH_lr, mH_l65, mH_l69, mH_l70, mH_l71, mH_l72, mH_l73, mH_l74, mH_l75, mH_c, ra1, rb1]
                  refine e_cQV2 (z := 127) hK rfl rfl (by first | (simp (disch := omega) only [mH_t64, mH_r1, mH_r3, mH_r4, mH_r5, mH_r6, mH_r8, mH_r9, mH_r10, mH_r11, mH_r12, mH_r14, mH_i0, mH_i2, mH_i7, mH_i13, mH_i15, mH_t71, mH_t, mH_lr, mH_l65, mH_l69, mH_l70, mH_l71, mH_l72, mH_l73, mH_l74, mH_l75, mH_c, ra1, rb1]; rfl) | (show _ = 2; assumption) | (show _ = 1; assumption) | (show _ = 0; assumption) | (show _ = 3; assumption) | (show _ = 4; assumption)) rfl (Nat.le_of_ble_eq_true rfl) (Nat.le_of_ble_eq_true rfl) (m_costTemps 266 (by omega) hR1 hI) ?_
                  rintro _ _ _ ⟨rfl, rfl, w, rfl, hw⟩
                  refine ⟨by show (0 : Nat) ≠ 4; decide, ?_⟩
                  rw [if_neg (by show ¬ (0 : Nat) = 3; decide)]
                  try dsimp only
                  show mv_Ev _ _ 139 _ _ _ _ _
                  refine e_ret hK rfl rfl rfl ?_
                  have e9 : sp_about W x = (0, cots (wA W), W) := by { unfold sp_about; (repeat (first | rw [if_pos (by omega)] | rw [if_neg (by omega)])) }
                  rw [e9]
                  exact ⟨rfl, rfl, w, rfl, hM1.ms hw, (congrFun (hw 264 (by omega) (by omega) (by omega)) 0).trans z1⟩
                · skip
                  rcases j with _ | j
                  · show mv_Ev _ _ 149 _ _ _ _ _
                    refine e_step (pc' := 150) hK rfl rfl rfl ?_
                    refine e_step (pc' := 151) hK rfl rfl rfl ?_
                    try simp only [List.set_cons_zero, List.set_cons_succ]
                    refine (g_ab2 hR1 hI x 3 hx (by omega) (gT (wA W)) 0 (by omega)).mono (fun r c' h' hq => ?_)
                    obtain ⟨rfl, rfl, rfl⟩ := hq
                    have e9 : sp_about W x = (0, csls (wA W) 3, W) := by { unfold sp_about; (repeat (first | rw [if_pos (by omega)] | rw [if_neg (by omega)])) }
                    rw [e9]
                    exact ⟨rfl, rfl, v1, rfl, hM1, z1⟩
                  · skip
                    rcases j with _ | j
                    · show mv_Ev _ _ 149 _ _ _ _ _
                      refine e_step (pc' := 150) hK rfl rfl rfl ?_
                      refine e_step (pc' := 151) hK rfl rfl rfl ?_
                      try simp only [List.set_cons_zero, List.set_cons_succ]
                      refine (g_ab2 hR1 hI x 4 hx (by omega) (gT (wA W)) 0 (by omega)).mono (fun r c' h' hq => ?_)
                      obtain ⟨rfl, rfl, rfl⟩ := hq
                      have e9 : sp_about W x = (0, csls (wA W) 4, W) := by { unfold sp_about; (repeat (first | rw [if_pos (by omega)] | rw [if_neg (by omega)])) }
                      rw [e9]
                      exact ⟨rfl, rfl, v1, rfl, hM1, z1⟩
                    · skip
                      rcases j with _ | j
                      · show mv_Ev _ _ 140 _ _ _ _ _
                        refine e_step (pc' := 141) hK rfl rfl rfl ?_
                        refine e_step (pc' := 142) hK rfl rfl rfl ?_
                        refine e_getR (ci := 4) (k := 3) (pc' := 145) hK rfl (by simp (disch := omega) only [mH_t64, mH_r1, mH_r3, mH_r4, mH_r5, mH_r6, mH_r8, mH_r9, mH_r10, mH_r11, mH_r12, mH_r14, mH_i0, mH_i2, mH_i7, mH_i13, mH_i15, mH_t71, mH_t, mH_lr, mH_l65, mH_l69, mH_l70, mH_l71, mH_l72, mH_l73, mH_l74, mH_l75, mH_c, ra1, rb1]) rfl rfl (by decide) (by decide) (by (try simp (disch := omega) only [mH_t64, mH_r1, mH_r3, mH_r4, mH_r5, mH_r6, mH_r8, mH_r9, mH_r10, mH_r11, mH_r12, mH_r14, mH_i0, mH_i2, mH_i7, mH_i13, mH_i15, mH_t71, mH_t, mH_lr, mH_l65, mH_l69, mH_l70, mH_l71, mH_l72, mH_l73, mH_l74, mH_l75, mH_c, ra1, rb1]); first | omega | exact bo_i _) rfl ?_
                        try simp (disch := omega) only [mH_t64, mH_r1, mH_r3, mH_r4, mH_r5, mH_r6, mH_r8, mH_r9, mH_r10, mH_r11, mH_r12, mH_r14, mH_i0, mH_i2, mH_i7, mH_i13, mH_i15, mH_t71, mH_t, mH_lr, mH_l65, mH_l69, mH_l70, mH_l71, mH_l72, mH_l73, mH_l74, mH_l75, mH_c, ra1, rb1]
                        refine e_cQV2 (z := 130) hK rfl rfl (by first | (simp (disch := omega) only [mH_t64, mH_r1, mH_r3, mH_r4, mH_r5, mH_r6, mH_r8, mH_r9, mH_r10, mH_r11, mH_r12, mH_r14, mH_i0, mH_i2, mH_i7, mH_i13, mH_i15, mH_t71, mH_t, mH_lr, mH_l65, mH_l69, mH_l70, mH_l71, mH_l72, mH_l73, mH_l74, mH_l75, mH_c, ra1, rb1]; rfl) | (show _ = 2; assumption) | (show _ = 1; assumption) | (show _ = 0; assumption) | (show _ = 3; assumption) | (show _ = 4; assumption)) rfl (Nat.le_of_ble_eq_true rfl) (Nat.le_of_ble_eq_true rfl) (m_diff 266 (by omega) hR1 hI) ?_
                        rintro _ _ _ ⟨rfl, rfl, w, rfl, hw⟩
                        refine ⟨by show (0 : Nat) ≠ 4; decide, ?_⟩
                        rw [if_neg (by show ¬ (0 : Nat) = 3; decide)]
                        try dsimp only
                        show mv_Ev _ _ 148 _ _ _ _ _
                        refine e_ret hK rfl rfl rfl ?_
                        have e9 : sp_about W x = (0, cdw (wA W), W) := by { unfold sp_about; (repeat (first | rw [if_pos (by omega)] | rw [if_neg (by omega)])) }
                        rw [e9]
                        exact ⟨rfl, rfl, w, rfl, hM1.ms hw, (congrFun (hw 264 (by omega) (by omega) (by omega)) 0).trans z1⟩
                      · skip
                        exact absurd hj (by show ¬ _ < 8; omega)
    · replace hb21 := cq_eq.2.mp hb21
      try simp only [bo_0, Bool.not_eq_false] at hb21
      exfalso; first | omega | exact absurd trivial (by assumption) | (first | omega | exact bo_i _)
set_option maxRecDepth 10000 in
theorem g_line {W : wt} (hM : MdA v W) (i : Int) (hi : mv_i i) (x : Int) (hx : mv_i x) : mv_Cl sc q_Mod_line [(2, 264), (0, i), (0, x)] c (mH h v) (fun r c' h' => r = (0, (sp_line W i x).2.1) ∧ c' = c ∧ ∃ w, h' = mH h w ∧ MdA w (sp_line W i x).2.2 ∧ w 264 0 = (sp_line W i x).1) := by
  have hM0 := hM
  obtain ⟨hTx, hR, ⟨hI, bn, bT⟩, hH, hz, hSv⟩ := hM
  have r0 := hR.1
  have r1 := hR.2.1
  show mv_Ev sc 133 0 [(2, 264), (0, i), (0, x), (5, 0)] [] c (mH h v) _
  have hK : (mv_m 133).1 = kc_Mod_line := rfl
  refine e_step (pc' := 1) hK rfl rfl rfl ?_
  refine e_step (pc' := 2) hK rfl rfl rfl ?_
  refine e_getR (ci := 4) (k := 3) (pc' := 5) hK rfl (by simp (disch := omega) only [mH_t64, mH_r1, mH_r3, mH_r4, mH_r5, mH_r6, mH_r8, mH_r9, mH_r10, mH_r11, mH_r12, mH_r14, mH_i0, mH_i2, mH_i7, mH_i13, mH_i15, mH_t71, mH_t, mH_lr, mH_l65, mH_l69, mH_l70, mH_l71, mH_l72, mH_l73, mH_l74, mH_l75, mH_c, r0]) rfl rfl (by decide) (by decide) (by (try simp (disch := omega) only [mH_t64, mH_r1, mH_r3, mH_r4, mH_r5, mH_r6, mH_r8, mH_r9, mH_r10, mH_r11, mH_r12, mH_r14, mH_i0, mH_i2, mH_i7, mH_i13, mH_i15, mH_t71, mH_t, mH_lr, mH_l65, mH_l69, mH_l70, mH_l71, mH_l72, mH_l73, mH_l74, mH_l75, mH_c, r0]); first | omega | exact bo_i _) rfl ?_
  try simp (disch := omega) only [mH_t64, mH_r1, mH_r3, mH_r4, mH_r5, mH_r6, mH_r8, mH_r9, mH_r10, mH_r11, mH_r12, mH_r14, mH_i0, mH_i2, mH_i7, mH_i13, mH_i15, mH_t71, mH_t, mH_lr, mH_l65, mH_l69, mH_l70, mH_l71, mH_l72, mH_l73, mH_l74, mH_l75, mH_c, r0]
  refine e_step (pc' := 6) hK rfl rfl rfl ?_
  refine e_cRS2 (z := 134) (pc' := 9) hK rfl rfl rfl (Nat.le_of_ble_eq_true rfl) (Nat.le_of_ble_eq_true rfl) (m_isLine 266 (by omega) i hi (by rw [r0]; omega)) (by decide) rfl ?_
  try simp (disch := omega) only [mH_t64, mH_r1, mH_r3, mH_r4, mH_r5, mH_r6, mH_r8, mH_r9, mH_r10, mH_r11, mH_r12, mH_r14, mH_i0, mH_i2, mH_i7, mH_i13, mH_i15, mH_t71, mH_t, mH_lr, mH_l65, mH_l69, mH_l70, mH_l71, mH_l72, mH_l73, mH_l74, mH_l75, mH_c, r0]
  refine e_if (t := 16) (pc' := 12) hK rfl (by first | omega | exact bo_i _) (by decide) rfl (fun hb9 => ?_) (fun hb9 => ?_)
  · replace hb9 := cq_ne.1.mp hb9
    try simp only [bo_0, Bool.not_eq_false] at hb9
    simp only [Bool.and_eq_true, decide_eq_true_eq] at hb9
    refine e_step (pc' := 17) hK rfl rfl rfl ?_
    refine e_i2l (pc' := 18) hK rfl (by first | omega | exact bo_i _) rfl ?_
    refine e_step (pc' := 19) hK rfl rfl rfl ?_
    show mv_Ev _ _ 19 _ ((1, (0 : Int)) :: _) _ _ _
    refine e_step (pc' := 22) hK rfl rfl rfl ?_
    refine e_cRS3 (z := 109) (pc' := 25) hK rfl rfl rfl (Nat.le_of_ble_eq_true rfl) (Nat.le_of_ble_eq_true rfl) (m_in x 0 3 (by omega) (by omega) (by omega)) (by decide) rfl ?_
    try simp (disch := omega) only [mH_t64, mH_r1, mH_r3, mH_r4, mH_r5, mH_r6, mH_r8, mH_r9, mH_r10, mH_r11, mH_r12, mH_r14, mH_i0, mH_i2, mH_i7, mH_i13, mH_i15, mH_t71, mH_t, mH_lr, mH_l65, mH_l69, mH_l70, mH_l71, mH_l72, mH_l73, mH_l74, mH_l75, mH_c, r0]
    refine e_if (t := 32) (pc' := 28) hK rfl (by first | omega | exact bo_i _) (by decide) rfl (fun hb25 => ?_) (fun hb25 => ?_)
    · replace hb25 := cq_eq.1.mp hb25
      try simp only [bo_0, Bool.not_eq_false] at hb25
      simp only [Bool.and_eq_false_iff, decide_eq_false_iff_not] at hb25
      refine e_step (pc' := 33) hK rfl rfl rfl ?_
      refine e_cQV2 (z := 110) hK rfl rfl (by first | (simp (disch := omega) only [mH_t64, mH_r1, mH_r3, mH_r4, mH_r5, mH_r6, mH_r8, mH_r9, mH_r10, mH_r11, mH_r12, mH_r14, mH_i0, mH_i2, mH_i7, mH_i13, mH_i15, mH_t71, mH_t, mH_lr, mH_l65, mH_l69, mH_l70, mH_l71, mH_l72, mH_l73, mH_l74, mH_l75, mH_c, r0]; rfl) | (show _ = 2; assumption) | (show _ = 1; assumption) | (show _ = 0; assumption) | (show _ = 3; assumption) | (show _ = 4; assumption)) rfl (Nat.le_of_ble_eq_true rfl) (Nat.le_of_ble_eq_true rfl) (m_refP 2 (by omega)) ?_
      rintro _ _ _ ⟨rfl, rfl, rfl⟩
      refine ⟨by show (0 : Nat) ≠ 4; decide, ?_⟩
      rw [if_neg (by show ¬ (0 : Nat) = 3; decide)]
      try dsimp only
      have hM1 := hM0.rf 2
      obtain ⟨v1, hv1⟩ : ∃ v1, v1 = gu v 264 (mv_up (v 264) 0 2) := ⟨_, rfl⟩
      rw [← hv1] at hM1 ⊢
      have z1 : v1 264 0 = 2 := by { rw [hv1, gu_s, up_s] }
      have eo1 : ∀ b : Int, b ≠ 264 → v1 b = v b := fun b hb => by { rw [hv1]; exact gu_n hb }
      have ef1 : ∀ k : Int, k ≠ 0 → v1 264 k = v 264 k := fun k hk => by { rw [hv1, gu_s, up_n hk] }
      have hR1 := hM1.2.1
      have ra1 := hR1.1
      have rb1 := hR1.2.1
      clear hv1
      show mv_Ev _ _ 36 _ _ _ _ _
      refine e_if (t := 41) (pc' := 39) hK rfl (by first | omega | exact bo_i _) (by decide) rfl (fun hb36 => ?_) (fun hb36 => ?_)
      · replace hb36 := cq_eq.1.mp hb36
        try simp only [bo_0, Bool.not_eq_false] at hb36
        exfalso; first | omega | exact absurd trivial (by assumption) | (first | omega | exact bo_i _)
      · replace hb36 := cq_eq.2.mp hb36
        try simp only [bo_0, Bool.not_eq_false] at hb36
        refine e_step (pc' := 40) hK rfl rfl rfl ?_
        refine e_ret hK rfl rfl rfl ?_
        have e9 : sp_line W i x = (2, 0, W) := by { unfold sp_line; (repeat (first | rw [if_pos (by omega)] | rw [if_neg (by omega)])) }
        rw [e9]
        exact ⟨rfl, rfl, v1, rfl, hM1, z1⟩
    · replace hb25 := cq_eq.2.mp hb25
      try simp only [bo_0, Bool.not_eq_false] at hb25
      simp only [Bool.and_eq_true, decide_eq_true_eq] at hb25
      refine e_step (pc' := 29) hK rfl rfl rfl ?_
      refine e_goto (t := 33) hK rfl (by decide) ?_
      refine e_cQV2 (z := 110) hK rfl rfl (by first | (simp (disch := omega) only [mH_t64, mH_r1, mH_r3, mH_r4, mH_r5, mH_r6, mH_r8, mH_r9, mH_r10, mH_r11, mH_r12, mH_r14, mH_i0, mH_i2, mH_i7, mH_i13, mH_i15, mH_t71, mH_t, mH_lr, mH_l65, mH_l69, mH_l70, mH_l71, mH_l72, mH_l73, mH_l74, mH_l75, mH_c, r0]; rfl) | (show _ = 2; assumption) | (show _ = 1; assumption) | (show _ = 0; assumption) | (show _ = 3; assumption) | (show _ = 4; assumption)) rfl (Nat.le_of_ble_eq_true rfl) (Nat.le_of_ble_eq_true rfl) (m_ref0) ?_
      rintro _ _ _ ⟨rfl, rfl, rfl⟩
      refine ⟨by show (0 : Nat) ≠ 4; decide, ?_⟩
      rw [if_neg (by show ¬ (0 : Nat) = 3; decide)]
      try dsimp only
      have hM1 := hM0.rf 0
      obtain ⟨v1, hv1⟩ : ∃ v1, v1 = gu v 264 (mv_up (v 264) 0 0) := ⟨_, rfl⟩
      rw [← hv1] at hM1 ⊢
      have z1 : v1 264 0 = 0 := by { rw [hv1, gu_s, up_s] }
      have eo1 : ∀ b : Int, b ≠ 264 → v1 b = v b := fun b hb => by { rw [hv1]; exact gu_n hb }
      have ef1 : ∀ k : Int, k ≠ 0 → v1 264 k = v 264 k := fun k hk => by { rw [hv1, gu_s, up_n hk] }
      have hR1 := hM1.2.1
      have ra1 := hR1.1
      have rb1 := hR1.2.1
      clear hv1
      show mv_Ev _ _ 36 _ _ _ _ _
      refine e_if (t := 41) (pc' := 39) hK rfl (by first | omega | exact bo_i _) (by decide) rfl (fun hb36 => ?_) (fun hb36 => ?_)
      · replace hb36 := cq_eq.1.mp hb36
        try simp only [bo_0, Bool.not_eq_false] at hb36
        have i0 : 0 ≤ i ∧ i < gn (wA W) := by omega
        have lr := hR1.2.2.1 i i0.1 i0.2
        have rt := lr.2
        have rl := lr.1.1
        have lb := xn_b (gLok hI i0.1 i0.2)
        have pb := gP_b hI i0.1 i0.2
        have egl := gl_L (A := wA W) i0.1 i0.2
        have egt := gt_P (A := wA W) i0.1 i0.2
        refine e_step (pc' := 42) hK rfl rfl rfl ?_
        refine e_getR (ci := 4) (k := 3) (pc' := 45) hK rfl (by simp (disch := omega) only [mH_t64, mH_r1, mH_r3, mH_r4, mH_r5, mH_r6, mH_r8, mH_r9, mH_r10, mH_r11, mH_r12, mH_r14, mH_i0, mH_i2, mH_i7, mH_i13, mH_i15, mH_t71, mH_t, mH_lr, mH_l65, mH_l69, mH_l70, mH_l71, mH_l72, mH_l73, mH_l74, mH_l75, mH_c, r0, ra1, rb1, rt, rl]) rfl rfl (by decide) (by decide) (by (try simp (disch := omega) only [mH_t64, mH_r1, mH_r3, mH_r4, mH_r5, mH_r6, mH_r8, mH_r9, mH_r10, mH_r11, mH_r12, mH_r14, mH_i0, mH_i2, mH_i7, mH_i13, mH_i15, mH_t71, mH_t, mH_lr, mH_l65, mH_l69, mH_l70, mH_l71, mH_l72, mH_l73, mH_l74, mH_l75, mH_c, r0, ra1, rb1, rt, rl]); first | omega | exact bo_i _) rfl ?_
        try simp (disch := omega) only [mH_t64, mH_r1, mH_r3, mH_r4, mH_r5, mH_r6, mH_r8, mH_r9, mH_r10, mH_r11, mH_r12, mH_r14, mH_i0, mH_i2, mH_i7, mH_i13, mH_i15, mH_t71, mH_t, mH_lr, mH_l65, mH_l69, mH_l70, mH_l71, mH_l72, mH_l73, mH_l74, mH_l75, mH_c, r0, ra1, rb1, rt, rl]
        refine e_step (pc' := 46) hK rfl rfl rfl ?_
        refine e_cRS1 (z := 116) (pc' := 49) hK rfl rfl rfl (Nat.le_of_ble_eq_true rfl) (Nat.le_of_ble_eq_true rfl) (m_lineAt i) (by decide) rfl ?_
        try simp (disch := omega) only [mH_t64, mH_r1, mH_r3, mH_r4, mH_r5, mH_r6, mH_r8, mH_r9, mH_r10, mH_r11, mH_r12, mH_r14, mH_i0, mH_i2, mH_i7, mH_i13, mH_i15, mH_t71, mH_t, mH_lr, mH_l65, mH_l69, mH_l70, mH_l71, mH_l72, mH_l73, mH_l74, mH_l75, mH_c, r0, ra1, rb1, rt, rl]
        refine e_step (pc' := 50) hK rfl rfl rfl ?_
        refine e_step (pc' := 51) hK rfl rfl rfl ?_
        refine e_iald (pc' := 52) hK rfl (by simp (disch := omega) only [mH_t64, mH_r1, mH_r3, mH_r4, mH_r5, mH_r6, mH_r8, mH_r9, mH_r10, mH_r11, mH_r12, mH_r14, mH_i0, mH_i2, mH_i7, mH_i13, mH_i15, mH_t71, mH_t, mH_lr, mH_l65, mH_l69, mH_l70, mH_l71, mH_l72, mH_l73, mH_l74, mH_l75, mH_c, r0, ra1, rb1, rt, rl]) (by first | omega | exact bo_i _) (by (try simp (disch := omega) only [mH_t64, mH_r1, mH_r3, mH_r4, mH_r5, mH_r6, mH_r8, mH_r9, mH_r10, mH_r11, mH_r12, mH_r14, mH_i0, mH_i2, mH_i7, mH_i13, mH_i15, mH_t71, mH_t, mH_lr, mH_l65, mH_l69, mH_l70, mH_l71, mH_l72, mH_l73, mH_l74, mH_l75, mH_c, r0, ra1, rb1, rt, rl]); first | omega | exact bo_i _) rfl ?_
        try simp (disch := omega) only [mH_t64, mH_r1, mH_r3, mH_r4, mH_r5, mH_r6, mH_r8, mH_r9, mH_r10, mH_r11, mH_r12, mH_r14, mH_i0, mH_i2, mH_i7, mH_i13, mH_i15, mH_t71, mH_t, mH_lr, mH_l65, mH_l69, mH_l70, mH_l71, mH_l72, mH_l73, mH_l74, mH_l75, mH_c, r0, ra1, rb1, rt, rl]
        refine e_step (pc' := 53) hK rfl rfl rfl ?_
        try simp only [List.set_cons_zero, List.set_cons_succ]
        refine e_step (pc' := 54) hK rfl rfl rfl ?_
        refine e_if (t := 61) (pc' := 57) hK rfl (by first | omega | exact bo_i _) (by decide) rfl (fun hb54 => ?_) (fun hb54 => ?_)
        · replace hb54 := cq_ne.1.mp hb54
          try simp only [bo_0, Bool.not_eq_false] at hb54
          refine e_step (pc' := 62) hK rfl rfl rfl ?_
          refine e_step (pc' := 63) hK rfl rfl rfl ?_
          refine e_icmp (t := 78) (pc' := 66) hK rfl (by first | omega | exact bo_i _) (by first | omega | exact bo_i _) (by decide) rfl (fun hb63 => ?_) (fun hb63 => ?_)
          · replace hb63 := cq_ne.1.mp hb63
            try simp only [bo_0, Bool.not_eq_false] at hb63
            refine e_step (pc' := 79) hK rfl rfl rfl ?_
            refine e_step (pc' := 80) hK rfl rfl rfl ?_
            refine e_icmp (t := 95) (pc' := 83) hK rfl (by first | omega | exact bo_i _) (by first | omega | exact bo_i _) (by decide) rfl (fun hb80 => ?_) (fun hb80 => ?_)
            · replace hb80 := cq_ne.1.mp hb80
              try simp only [bo_0, Bool.not_eq_false] at hb80
              refine e_step (pc' := 96) hK rfl rfl rfl ?_
              refine e_getR (ci := 4) (k := 3) (pc' := 99) hK rfl (by simp (disch := omega) only [mH_t64, mH_r1, mH_r3, mH_r4, mH_r5, mH_r6, mH_r8, mH_r9, mH_r10, mH_r11, mH_r12, mH_r14, mH_i0, mH_i2, mH_i7, mH_i13, mH_i15, mH_t71, mH_t, mH_lr, mH_l65, mH_l69, mH_l70, mH_l71, mH_l72, mH_l73, mH_l74, mH_l75, mH_c, r0, ra1, rb1, rt, rl]) rfl rfl (by decide) (by decide) (by (try simp (disch := omega) only [mH_t64, mH_r1, mH_r3, mH_r4, mH_r5, mH_r6, mH_r8, mH_r9, mH_r10, mH_r11, mH_r12, mH_r14, mH_i0, mH_i2, mH_i7, mH_i13, mH_i15, mH_t71, mH_t, mH_lr, mH_l65, mH_l69, mH_l70, mH_l71, mH_l72, mH_l73, mH_l74, mH_l75, mH_c, r0, ra1, rb1, rt, rl]); first | omega | exact bo_i _) rfl ?_
              try simp (disch := omega) only [mH_t64, mH_r1, mH_r3, mH_r4, mH_r5, mH_r6, mH_r8, mH_r9, mH_r10, mH_r11, mH_r12, mH_r14, mH_i0, mH_i2, mH_i7, mH_i13, mH_i15, mH_t71, mH_t, mH_lr, mH_l65, mH_l69, mH_l70, mH_l71, mH_l72, mH_l73, mH_l74, mH_l75, mH_c, r0, ra1, rb1, rt, rl]
              refine e_step (pc' := 100) hK rfl rfl rfl ?_
              refine e_step (pc' := 101) hK rfl rfl rfl ?_
              refine e_cRS3 (z := 135) (pc' := 104) hK rfl rfl rfl (Nat.le_of_ble_eq_true rfl) (Nat.le_of_ble_eq_true rfl) (m_linesOf 266 (by omega) hR1 hI (gP (wA W) i) (by omega) i i0.1 (by omega)) (by decide) rfl ?_
              try simp (disch := omega) only [mH_t64, mH_r1, mH_r3, mH_r4, mH_r5, mH_r6, mH_r8, mH_r9, mH_r10, mH_r11, mH_r12, mH_r14, mH_i0, mH_i2, mH_i7, mH_i13, mH_i15, mH_t71, mH_t, mH_lr, mH_l65, mH_l69, mH_l70, mH_l71, mH_l72, mH_l73, mH_l74, mH_l75, mH_c, r0, ra1, rb1, rt, rl]
              refine e_ret hK rfl rfl rfl ?_
              have e9 : sp_line W i x = (0, lc (fun k => decide (gP (wA W) k = gP (wA W) i)) i.toNat, W) := by { unfold sp_line; rw [egt, clb_lc i0.1 (by omega)]; (repeat (first | rw [if_pos (by omega)] | rw [if_neg (by omega)])) }
              rw [e9]
              exact ⟨rfl, rfl, v1, rfl, hM1, z1⟩
            · replace hb80 := cq_ne.2.mp hb80
              try simp only [bo_0, Bool.not_eq_false] at hb80
              refine e_step (pc' := 84) hK rfl rfl rfl ?_
              refine e_step (pc' := 85) hK rfl rfl rfl ?_
              refine e_getR (ci := 4) (k := 3) (pc' := 88) hK rfl (by simp (disch := omega) only [mH_t64, mH_r1, mH_r3, mH_r4, mH_r5, mH_r6, mH_r8, mH_r9, mH_r10, mH_r11, mH_r12, mH_r14, mH_i0, mH_i2, mH_i7, mH_i13, mH_i15, mH_t71, mH_t, mH_lr, mH_l65, mH_l69, mH_l70, mH_l71, mH_l72, mH_l73, mH_l74, mH_l75, mH_c, r0, ra1, rb1, rt, rl]) rfl rfl (by decide) (by decide) (by (try simp (disch := omega) only [mH_t64, mH_r1, mH_r3, mH_r4, mH_r5, mH_r6, mH_r8, mH_r9, mH_r10, mH_r11, mH_r12, mH_r14, mH_i0, mH_i2, mH_i7, mH_i13, mH_i15, mH_t71, mH_t, mH_lr, mH_l65, mH_l69, mH_l70, mH_l71, mH_l72, mH_l73, mH_l74, mH_l75, mH_c, r0, ra1, rb1, rt, rl]); first | omega | exact bo_i _) rfl ?_
              try simp (disch := omega) only [mH_t64, mH_r1, mH_r3, mH_r4, mH_r5, mH_r6, mH_r8, mH_r9, mH_r10, mH_r11, mH_r12, mH_r14, mH_i0, mH_i2, mH_i7, mH_i13, mH_i15, mH_t71, mH_t, mH_lr, mH_l65, mH_l69, mH_l70, mH_l71, mH_l72, mH_l73, mH_l74, mH_l75, mH_c, r0, ra1, rb1, rt, rl]
              refine e_step (pc' := 89) hK rfl rfl rfl ?_
              refine e_cQV3 (z := 118) hK rfl rfl (by first | (simp (disch := omega) only [mH_t64, mH_r1, mH_r3, mH_r4, mH_r5, mH_r6, mH_r8, mH_r9, mH_r10, mH_r11, mH_r12, mH_r14, mH_i0, mH_i2, mH_i7, mH_i13, mH_i15, mH_t71, mH_t, mH_lr, mH_l65, mH_l69, mH_l70, mH_l71, mH_l72, mH_l73, mH_l74, mH_l75, mH_c, r0, ra1, rb1, rt, rl]; rfl) | (show _ = 2; assumption) | (show _ = 1; assumption) | (show _ = 0; assumption) | (show _ = 3; assumption) | (show _ = 4; assumption)) rfl (Nat.le_of_ble_eq_true rfl) (Nat.le_of_ble_eq_true rfl) (m_costLine 266 (by omega) hR1 hI (gP (wA W) i) i i0.1 i0.2 rfl) ?_
              rintro _ _ _ ⟨rfl, rfl, w, rfl, hw⟩
              refine ⟨by show (0 : Nat) ≠ 4; decide, ?_⟩
              rw [if_neg (by show ¬ (0 : Nat) = 3; decide)]
              try dsimp only
              show mv_Ev _ _ 92 _ _ _ _ _
              refine e_goto (t := 104) hK rfl (by decide) ?_
              refine e_ret hK rfl rfl rfl ?_
              have e9 : sp_line W i x = (0, col (wA W) (gL (wA W) i) (gP (wA W) i) i, W) := by { unfold sp_line; rw [egl, egt]; (repeat (first | rw [if_pos (by omega)] | rw [if_neg (by omega)])) }
              rw [e9]
              exact ⟨rfl, rfl, w, rfl, hM1.ms hw, (congrFun (hw 264 (by omega) (by omega) (by omega)) 0).trans z1⟩
          · replace hb63 := cq_ne.2.mp hb63
            try simp only [bo_0, Bool.not_eq_false] at hb63
            refine e_step (pc' := 67) hK rfl rfl rfl ?_
            refine e_getR (ci := 4) (k := 3) (pc' := 70) hK rfl (by simp (disch := omega) only [mH_t64, mH_r1, mH_r3, mH_r4, mH_r5, mH_r6, mH_r8, mH_r9, mH_r10, mH_r11, mH_r12, mH_r14, mH_i0, mH_i2, mH_i7, mH_i13, mH_i15, mH_t71, mH_t, mH_lr, mH_l65, mH_l69, mH_l70, mH_l71, mH_l72, mH_l73, mH_l74, mH_l75, mH_c, r0, ra1, rb1, rt, rl]) rfl rfl (by decide) (by decide) (by (try simp (disch := omega) only [mH_t64, mH_r1, mH_r3, mH_r4, mH_r5, mH_r6, mH_r8, mH_r9, mH_r10, mH_r11, mH_r12, mH_r14, mH_i0, mH_i2, mH_i7, mH_i13, mH_i15, mH_t71, mH_t, mH_lr, mH_l65, mH_l69, mH_l70, mH_l71, mH_l72, mH_l73, mH_l74, mH_l75, mH_c, r0, ra1, rb1, rt, rl]); first | omega | exact bo_i _) rfl ?_
            try simp (disch := omega) only [mH_t64, mH_r1, mH_r3, mH_r4, mH_r5, mH_r6, mH_r8, mH_r9, mH_r10, mH_r11, mH_r12, mH_r14, mH_i0, mH_i2, mH_i7, mH_i13, mH_i15, mH_t71, mH_t, mH_lr, mH_l65, mH_l69, mH_l70, mH_l71, mH_l72, mH_l73, mH_l74, mH_l75, mH_c, r0, ra1, rb1, rt, rl]
            refine e_step (pc' := 71) hK rfl rfl rfl ?_
            refine e_cRS1 (z := 116) (pc' := 74) hK rfl rfl rfl (Nat.le_of_ble_eq_true rfl) (Nat.le_of_ble_eq_true rfl) (m_lineAt i) (by decide) rfl ?_
            try simp (disch := omega) only [mH_t64, mH_r1, mH_r3, mH_r4, mH_r5, mH_r6, mH_r8, mH_r9, mH_r10, mH_r11, mH_r12, mH_r14, mH_i0, mH_i2, mH_i7, mH_i13, mH_i15, mH_t71, mH_t, mH_lr, mH_l65, mH_l69, mH_l70, mH_l71, mH_l72, mH_l73, mH_l74, mH_l75, mH_c, r0, ra1, rb1, rt, rl]
            refine e_iald (pc' := 75) hK rfl (by simp (disch := omega) only [mH_t64, mH_r1, mH_r3, mH_r4, mH_r5, mH_r6, mH_r8, mH_r9, mH_r10, mH_r11, mH_r12, mH_r14, mH_i0, mH_i2, mH_i7, mH_i13, mH_i15, mH_t71, mH_t, mH_lr, mH_l65, mH_l69, mH_l70, mH_l71, mH_l72, mH_l73, mH_l74, mH_l75, mH_c, r0, ra1, rb1, rt, rl]) (by first | omega | exact bo_i _) (by (try simp (disch := omega) only [mH_t64, mH_r1, mH_r3, mH_r4, mH_r5, mH_r6, mH_r8, mH_r9, mH_r10, mH_r11, mH_r12, mH_r14, mH_i0, mH_i2, mH_i7, mH_i13, mH_i15, mH_t71, mH_t, mH_lr, mH_l65, mH_l69, mH_l70, mH_l71, mH_l72, mH_l73, mH_l74, mH_l75, mH_c, r0, ra1, rb1, rt, rl]); first | omega | exact bo_i _) rfl ?_
            try simp (disch := omega) only [mH_t64, mH_r1, mH_r3, mH_r4, mH_r5, mH_r6, mH_r8, mH_r9, mH_r10, mH_r11, mH_r12, mH_r14, mH_i0, mH_i2, mH_i7, mH_i13, mH_i15, mH_t71, mH_t, mH_lr, mH_l65, mH_l69, mH_l70, mH_l71, mH_l72, mH_l73, mH_l74, mH_l75, mH_c, r0, ra1, rb1, rt, rl]
            refine e_goto (t := 104) hK rfl (by decide) ?_
            refine e_ret hK rfl rfl rfl ?_
            have e9 : sp_line W i x = (0, ((gL (wA W) i).1 : Int), W) := by { unfold sp_line; rw [egl]; (repeat (first | rw [if_pos (by omega)] | rw [if_neg (by omega)])) }
            rw [e9]
            exact ⟨rfl, rfl, v1, rfl, hM1, z1⟩
        · replace hb54 := cq_ne.2.mp hb54
          try simp only [bo_0, Bool.not_eq_false] at hb54
          refine e_step (pc' := 58) hK rfl rfl rfl ?_
          refine e_goto (t := 104) hK rfl (by decide) ?_
          refine e_ret hK rfl rfl rfl ?_
          have e9 : sp_line W i x = (0, gP (wA W) i, W) := by { unfold sp_line; rw [egt]; (repeat (first | rw [if_pos (by omega)] | rw [if_neg (by omega)])) }
          rw [e9]
          exact ⟨rfl, rfl, v1, rfl, hM1, z1⟩
      · replace hb36 := cq_eq.2.mp hb36
        try simp only [bo_0, Bool.not_eq_false] at hb36
        exfalso; first | omega | exact absurd trivial (by assumption) | (first | omega | exact bo_i _)
  · replace hb9 := cq_ne.2.mp hb9
    try simp only [bo_0, Bool.not_eq_false] at hb9
    simp only [Bool.and_eq_false_iff, decide_eq_false_iff_not] at hb9
    refine e_step (pc' := 13) hK rfl rfl rfl ?_
    refine e_goto (t := 33) hK rfl (by decide) ?_
    refine e_cQV2 (z := 110) hK rfl rfl (by first | (simp (disch := omega) only [mH_t64, mH_r1, mH_r3, mH_r4, mH_r5, mH_r6, mH_r8, mH_r9, mH_r10, mH_r11, mH_r12, mH_r14, mH_i0, mH_i2, mH_i7, mH_i13, mH_i15, mH_t71, mH_t, mH_lr, mH_l65, mH_l69, mH_l70, mH_l71, mH_l72, mH_l73, mH_l74, mH_l75, mH_c, r0]; rfl) | (show _ = 2; assumption) | (show _ = 1; assumption) | (show _ = 0; assumption) | (show _ = 3; assumption) | (show _ = 4; assumption)) rfl (Nat.le_of_ble_eq_true rfl) (Nat.le_of_ble_eq_true rfl) (m_refP 1 (by omega)) ?_
    rintro _ _ _ ⟨rfl, rfl, rfl⟩
    refine ⟨by show (0 : Nat) ≠ 4; decide, ?_⟩
    rw [if_neg (by show ¬ (0 : Nat) = 3; decide)]
    try dsimp only
    have hM1 := hM0.rf 1
    obtain ⟨v1, hv1⟩ : ∃ v1, v1 = gu v 264 (mv_up (v 264) 0 1) := ⟨_, rfl⟩
    rw [← hv1] at hM1 ⊢
    have z1 : v1 264 0 = 1 := by { rw [hv1, gu_s, up_s] }
    have eo1 : ∀ b : Int, b ≠ 264 → v1 b = v b := fun b hb => by { rw [hv1]; exact gu_n hb }
    have ef1 : ∀ k : Int, k ≠ 0 → v1 264 k = v 264 k := fun k hk => by { rw [hv1, gu_s, up_n hk] }
    have hR1 := hM1.2.1
    have ra1 := hR1.1
    have rb1 := hR1.2.1
    clear hv1
    show mv_Ev _ _ 36 _ _ _ _ _
    refine e_if (t := 41) (pc' := 39) hK rfl (by first | omega | exact bo_i _) (by decide) rfl (fun hb36 => ?_) (fun hb36 => ?_)
    · replace hb36 := cq_eq.1.mp hb36
      try simp only [bo_0, Bool.not_eq_false] at hb36
      exfalso; first | omega | exact absurd trivial (by assumption) | (first | omega | exact bo_i _)
    · replace hb36 := cq_eq.2.mp hb36
      try simp only [bo_0, Bool.not_eq_false] at hb36
      refine e_step (pc' := 40) hK rfl rfl rfl ?_
      refine e_ret hK rfl rfl rfl ?_
      have e9 : sp_line W i x = (1, 0, W) := by { unfold sp_line; (repeat (first | rw [if_pos (by omega)] | rw [if_neg (by omega)])) }
      rw [e9]
      exact ⟨rfl, rfl, v1, rfl, hM1, z1⟩
set_option maxRecDepth 10000 in
theorem g_charAt {W : wt} (hM : MdA v W) (i : Int) (hi : mv_i i) (x : Int) (hx : mv_i x) : mv_Cl sc q_Mod_charAt [(2, 264), (0, i), (0, x)] c (mH h v) (fun r c' h' => r = (0, (sp_charAt W i x).2.1) ∧ c' = c ∧ ∃ w, h' = mH h w ∧ MdA w (sp_charAt W i x).2.2 ∧ w 264 0 = (sp_charAt W i x).1) := by
  have hM0 := hM
  obtain ⟨hTx, hR, ⟨hI, bn, bT⟩, hH, hz, hSv⟩ := hM
  have r0 := hR.1
  have r1 := hR.2.1
  show mv_Ev sc 136 0 [(2, 264), (0, i), (0, x)] [] c (mH h v) _
  have hK : (mv_m 136).1 = kc_Mod_charAt := rfl
  refine e_step (pc' := 1) hK rfl rfl rfl ?_
  refine e_step (pc' := 2) hK rfl rfl rfl ?_
  refine e_getR (ci := 4) (k := 3) (pc' := 5) hK rfl (by simp (disch := omega) only [mH_t64, mH_r1, mH_r3, mH_r4, mH_r5, mH_r6, mH_r8, mH_r9, mH_r10, mH_r11, mH_r12, mH_r14, mH_i0, mH_i2, mH_i7, mH_i13, mH_i15, mH_t71, mH_t, mH_lr, mH_l65, mH_l69, mH_l70, mH_l71, mH_l72, mH_l73, mH_l74, mH_l75, mH_c, r0]) rfl rfl (by decide) (by decide) (by (try simp (disch := omega) only [mH_t64, mH_r1, mH_r3, mH_r4, mH_r5, mH_r6, mH_r8, mH_r9, mH_r10, mH_r11, mH_r12, mH_r14, mH_i0, mH_i2, mH_i7, mH_i13, mH_i15, mH_t71, mH_t, mH_lr, mH_l65, mH_l69, mH_l70, mH_l71, mH_l72, mH_l73, mH_l74, mH_l75, mH_c, r0]); first | omega | exact bo_i _) rfl ?_
  try simp (disch := omega) only [mH_t64, mH_r1, mH_r3, mH_r4, mH_r5, mH_r6, mH_r8, mH_r9, mH_r10, mH_r11, mH_r12, mH_r14, mH_i0, mH_i2, mH_i7, mH_i13, mH_i15, mH_t71, mH_t, mH_lr, mH_l65, mH_l69, mH_l70, mH_l71, mH_l72, mH_l73, mH_l74, mH_l75, mH_c, r0]
  refine e_step (pc' := 6) hK rfl rfl rfl ?_
  refine e_cRS2 (z := 134) (pc' := 9) hK rfl rfl rfl (Nat.le_of_ble_eq_true rfl) (Nat.le_of_ble_eq_true rfl) (m_isLine 266 (by omega) i hi (by rw [r0]; omega)) (by decide) rfl ?_
  try simp (disch := omega) only [mH_t64, mH_r1, mH_r3, mH_r4, mH_r5, mH_r6, mH_r8, mH_r9, mH_r10, mH_r11, mH_r12, mH_r14, mH_i0, mH_i2, mH_i7, mH_i13, mH_i15, mH_t71, mH_t, mH_lr, mH_l65, mH_l69, mH_l70, mH_l71, mH_l72, mH_l73, mH_l74, mH_l75, mH_c, r0]
  refine e_if (t := 16) (pc' := 12) hK rfl (by first | omega | exact bo_i _) (by decide) rfl (fun hb9 => ?_) (fun hb9 => ?_)
  · replace hb9 := cq_ne.1.mp hb9
    try simp only [bo_0, Bool.not_eq_false] at hb9
    simp only [Bool.and_eq_true, decide_eq_true_eq] at hb9
    refine e_step (pc' := 17) hK rfl rfl rfl ?_
    refine e_if (t := 24) (pc' := 20) hK rfl (by first | omega | exact bo_i _) (by decide) rfl (fun hb17 => ?_) (fun hb17 => ?_)
    · replace hb17 := cq_ge.1.mp hb17
      try simp only [bo_0, Bool.not_eq_false] at hb17
      refine e_step (pc' := 25) hK rfl rfl rfl ?_
      refine e_cQV2 (z := 110) hK rfl rfl (by first | (simp (disch := omega) only [mH_t64, mH_r1, mH_r3, mH_r4, mH_r5, mH_r6, mH_r8, mH_r9, mH_r10, mH_r11, mH_r12, mH_r14, mH_i0, mH_i2, mH_i7, mH_i13, mH_i15, mH_t71, mH_t, mH_lr, mH_l65, mH_l69, mH_l70, mH_l71, mH_l72, mH_l73, mH_l74, mH_l75, mH_c, r0]; rfl) | (show _ = 2; assumption) | (show _ = 1; assumption) | (show _ = 0; assumption) | (show _ = 3; assumption) | (show _ = 4; assumption)) rfl (Nat.le_of_ble_eq_true rfl) (Nat.le_of_ble_eq_true rfl) (m_ref0) ?_
      rintro _ _ _ ⟨rfl, rfl, rfl⟩
      refine ⟨by show (0 : Nat) ≠ 4; decide, ?_⟩
      rw [if_neg (by show ¬ (0 : Nat) = 3; decide)]
      try dsimp only
      have hM1 := hM0.rf 0
      obtain ⟨v1, hv1⟩ : ∃ v1, v1 = gu v 264 (mv_up (v 264) 0 0) := ⟨_, rfl⟩
      rw [← hv1] at hM1 ⊢
      have z1 : v1 264 0 = 0 := by { rw [hv1, gu_s, up_s] }
      have eo1 : ∀ b : Int, b ≠ 264 → v1 b = v b := fun b hb => by { rw [hv1]; exact gu_n hb }
      have ef1 : ∀ k : Int, k ≠ 0 → v1 264 k = v 264 k := fun k hk => by { rw [hv1, gu_s, up_n hk] }
      have hR1 := hM1.2.1
      have ra1 := hR1.1
      have rb1 := hR1.2.1
      clear hv1
      show mv_Ev _ _ 28 _ _ _ _ _
      refine e_if (t := 33) (pc' := 31) hK rfl (by first | omega | exact bo_i _) (by decide) rfl (fun hb28 => ?_) (fun hb28 => ?_)
      · replace hb28 := cq_eq.1.mp hb28
        try simp only [bo_0, Bool.not_eq_false] at hb28
        have i0 : 0 ≤ i ∧ i < gn (wA W) := by omega
        have lr := hR1.2.2.1 i i0.1 i0.2
        have rt := lr.2
        have rl := lr.1.1
        have lb := xn_b (gLok hI i0.1 i0.2)
        have pb := gP_b hI i0.1 i0.2
        have egl := gl_L (A := wA W) i0.1 i0.2
        have egt := gt_P (A := wA W) i0.1 i0.2
        refine e_step (pc' := 34) hK rfl rfl rfl ?_
        refine e_step (pc' := 35) hK rfl rfl rfl ?_
        refine e_getR (ci := 4) (k := 3) (pc' := 38) hK rfl (by simp (disch := omega) only [mH_t64, mH_r1, mH_r3, mH_r4, mH_r5, mH_r6, mH_r8, mH_r9, mH_r10, mH_r11, mH_r12, mH_r14, mH_i0, mH_i2, mH_i7, mH_i13, mH_i15, mH_t71, mH_t, mH_lr, mH_l65, mH_l69, mH_l70, mH_l71, mH_l72, mH_l73, mH_l74, mH_l75, mH_c, r0, ra1, rb1, rt, rl]) rfl rfl (by decide) (by decide) (by (try simp (disch := omega) only [mH_t64, mH_r1, mH_r3, mH_r4, mH_r5, mH_r6, mH_r8, mH_r9, mH_r10, mH_r11, mH_r12, mH_r14, mH_i0, mH_i2, mH_i7, mH_i13, mH_i15, mH_t71, mH_t, mH_lr, mH_l65, mH_l69, mH_l70, mH_l71, mH_l72, mH_l73, mH_l74, mH_l75, mH_c, r0, ra1, rb1, rt, rl]); first | omega | exact bo_i _) rfl ?_
        try simp (disch := omega) only [mH_t64, mH_r1, mH_r3, mH_r4, mH_r5, mH_r6, mH_r8, mH_r9, mH_r10, mH_r11, mH_r12, mH_r14, mH_i0, mH_i2, mH_i7, mH_i13, mH_i15, mH_t71, mH_t, mH_lr, mH_l65, mH_l69, mH_l70, mH_l71, mH_l72, mH_l73, mH_l74, mH_l75, mH_c, r0, ra1, rb1, rt, rl]
        refine e_step (pc' := 39) hK rfl rfl rfl ?_
        refine e_cRS1 (z := 116) (pc' := 42) hK rfl rfl rfl (Nat.le_of_ble_eq_true rfl) (Nat.le_of_ble_eq_true rfl) (m_lineAt i) (by decide) rfl ?_
        try simp (disch := omega) only [mH_t64, mH_r1, mH_r3, mH_r4, mH_r5, mH_r6, mH_r8, mH_r9, mH_r10, mH_r11, mH_r12, mH_r14, mH_i0, mH_i2, mH_i7, mH_i13, mH_i15, mH_t71, mH_t, mH_lr, mH_l65, mH_l69, mH_l70, mH_l71, mH_l72, mH_l73, mH_l74, mH_l75, mH_c, r0, ra1, rb1, rt, rl]
        refine e_iald (pc' := 43) hK rfl (by simp (disch := omega) only [mH_t64, mH_r1, mH_r3, mH_r4, mH_r5, mH_r6, mH_r8, mH_r9, mH_r10, mH_r11, mH_r12, mH_r14, mH_i0, mH_i2, mH_i7, mH_i13, mH_i15, mH_t71, mH_t, mH_lr, mH_l65, mH_l69, mH_l70, mH_l71, mH_l72, mH_l73, mH_l74, mH_l75, mH_c, r0, ra1, rb1, rt, rl]) (by first | omega | exact bo_i _) (by (try simp (disch := omega) only [mH_t64, mH_r1, mH_r3, mH_r4, mH_r5, mH_r6, mH_r8, mH_r9, mH_r10, mH_r11, mH_r12, mH_r14, mH_i0, mH_i2, mH_i7, mH_i13, mH_i15, mH_t71, mH_t, mH_lr, mH_l65, mH_l69, mH_l70, mH_l71, mH_l72, mH_l73, mH_l74, mH_l75, mH_c, r0, ra1, rb1, rt, rl]); first | omega | exact bo_i _) rfl ?_
        try simp (disch := omega) only [mH_t64, mH_r1, mH_r3, mH_r4, mH_r5, mH_r6, mH_r8, mH_r9, mH_r10, mH_r11, mH_r12, mH_r14, mH_i0, mH_i2, mH_i7, mH_i13, mH_i15, mH_t71, mH_t, mH_lr, mH_l65, mH_l69, mH_l70, mH_l71, mH_l72, mH_l73, mH_l74, mH_l75, mH_c, r0, ra1, rb1, rt, rl]
        refine e_icmp (t := 62) (pc' := 46) hK rfl (by first | omega | exact bo_i _) (by first | omega | exact bo_i _) (by decide) rfl (fun hb43 => ?_) (fun hb43 => ?_)
        · replace hb43 := cq_ge.1.mp hb43
          try simp only [bo_0, Bool.not_eq_false] at hb43
          refine e_step (pc' := 65) hK rfl rfl rfl ?_
          refine e_ret hK rfl rfl rfl ?_
          have ex : xc (gl (wA W) i) x = -9999 := by { rw [egl]; exact if_neg (by omega) }
          have e9 : sp_charAt W i x = (0, -9999, W) := by { unfold sp_charAt; rw [ex]; (repeat (first | rw [if_pos (by omega)] | rw [if_neg (by omega)])) }
          rw [e9]
          exact ⟨rfl, rfl, v1, rfl, hM1, z1⟩
        · replace hb43 := cq_ge.2.mp hb43
          try simp only [bo_0, Bool.not_eq_false] at hb43
          have rc := lr.1.2 x (by omega) (by omega)
          refine e_step (pc' := 47) hK rfl rfl rfl ?_
          refine e_getR (ci := 4) (k := 3) (pc' := 50) hK rfl (by simp (disch := omega) only [mH_t64, mH_r1, mH_r3, mH_r4, mH_r5, mH_r6, mH_r8, mH_r9, mH_r10, mH_r11, mH_r12, mH_r14, mH_i0, mH_i2, mH_i7, mH_i13, mH_i15, mH_t71, mH_t, mH_lr, mH_l65, mH_l69, mH_l70, mH_l71, mH_l72, mH_l73, mH_l74, mH_l75, mH_c, r0, ra1, rb1, rt, rl, rc]) rfl rfl (by decide) (by decide) (by (try simp (disch := omega) only [mH_t64, mH_r1, mH_r3, mH_r4, mH_r5, mH_r6, mH_r8, mH_r9, mH_r10, mH_r11, mH_r12, mH_r14, mH_i0, mH_i2, mH_i7, mH_i13, mH_i15, mH_t71, mH_t, mH_lr, mH_l65, mH_l69, mH_l70, mH_l71, mH_l72, mH_l73, mH_l74, mH_l75, mH_c, r0, ra1, rb1, rt, rl, rc]); first | omega | exact bo_i _) rfl ?_
          try simp (disch := omega) only [mH_t64, mH_r1, mH_r3, mH_r4, mH_r5, mH_r6, mH_r8, mH_r9, mH_r10, mH_r11, mH_r12, mH_r14, mH_i0, mH_i2, mH_i7, mH_i13, mH_i15, mH_t71, mH_t, mH_lr, mH_l65, mH_l69, mH_l70, mH_l71, mH_l72, mH_l73, mH_l74, mH_l75, mH_c, r0, ra1, rb1, rt, rl, rc]
          refine e_step (pc' := 51) hK rfl rfl rfl ?_
          refine e_cRS1 (z := 116) (pc' := 54) hK rfl rfl rfl (Nat.le_of_ble_eq_true rfl) (Nat.le_of_ble_eq_true rfl) (m_lineAt i) (by decide) rfl ?_
          try simp (disch := omega) only [mH_t64, mH_r1, mH_r3, mH_r4, mH_r5, mH_r6, mH_r8, mH_r9, mH_r10, mH_r11, mH_r12, mH_r14, mH_i0, mH_i2, mH_i7, mH_i13, mH_i15, mH_t71, mH_t, mH_lr, mH_l65, mH_l69, mH_l70, mH_l71, mH_l72, mH_l73, mH_l74, mH_l75, mH_c, r0, ra1, rb1, rt, rl, rc]
          refine e_step (pc' := 55) hK rfl rfl rfl ?_
          refine e_step (pc' := 56) hK rfl rfl rfl ?_
          refine e_step (pc' := 57) hK rfl rfl rfl ?_
          refine e_step (pc' := 58) hK rfl rfl rfl ?_
          refine e_iald (pc' := 59) hK rfl (by simp (disch := omega) only [mH_t64, mH_r1, mH_r3, mH_r4, mH_r5, mH_r6, mH_r8, mH_r9, mH_r10, mH_r11, mH_r12, mH_r14, mH_i0, mH_i2, mH_i7, mH_i13, mH_i15, mH_t71, mH_t, mH_lr, mH_l65, mH_l69, mH_l70, mH_l71, mH_l72, mH_l73, mH_l74, mH_l75, mH_c, r0, ra1, rb1, rt, rl, rc]) (by first | omega | exact bo_i _) (by (try simp (disch := omega) only [mH_t64, mH_r1, mH_r3, mH_r4, mH_r5, mH_r6, mH_r8, mH_r9, mH_r10, mH_r11, mH_r12, mH_r14, mH_i0, mH_i2, mH_i7, mH_i13, mH_i15, mH_t71, mH_t, mH_lr, mH_l65, mH_l69, mH_l70, mH_l71, mH_l72, mH_l73, mH_l74, mH_l75, mH_c, r0, ra1, rb1, rt, rl, rc]); first | omega | exact bo_i _) rfl ?_
          try simp (disch := omega) only [mH_t64, mH_r1, mH_r3, mH_r4, mH_r5, mH_r6, mH_r8, mH_r9, mH_r10, mH_r11, mH_r12, mH_r14, mH_i0, mH_i2, mH_i7, mH_i13, mH_i15, mH_t71, mH_t, mH_lr, mH_l65, mH_l69, mH_l70, mH_l71, mH_l72, mH_l73, mH_l74, mH_l75, mH_c, r0, ra1, rb1, rt, rl, rc]
          refine e_goto (t := 65) hK rfl (by decide) ?_
          refine e_ret hK rfl rfl rfl ?_
          have ex : xc (gl (wA W) i) x = (gL (wA W) i).2 x := by { rw [egl]; exact if_pos ⟨by omega, by omega⟩ }
          have e9 : sp_charAt W i x = (0, (gL (wA W) i).2 x, W) := by { unfold sp_charAt; rw [ex]; (repeat (first | rw [if_pos (by omega)] | rw [if_neg (by omega)])) }
          rw [e9]
          exact ⟨rfl, rfl, v1, rfl, hM1, z1⟩
      · replace hb28 := cq_eq.2.mp hb28
        try simp only [bo_0, Bool.not_eq_false] at hb28
        exfalso; first | omega | exact absurd trivial (by assumption) | (first | omega | exact bo_i _)
    · replace hb17 := cq_ge.2.mp hb17
      try simp only [bo_0, Bool.not_eq_false] at hb17
      refine e_step (pc' := 21) hK rfl rfl rfl ?_
      refine e_goto (t := 25) hK rfl (by decide) ?_
      refine e_cQV2 (z := 110) hK rfl rfl (by first | (simp (disch := omega) only [mH_t64, mH_r1, mH_r3, mH_r4, mH_r5, mH_r6, mH_r8, mH_r9, mH_r10, mH_r11, mH_r12, mH_r14, mH_i0, mH_i2, mH_i7, mH_i13, mH_i15, mH_t71, mH_t, mH_lr, mH_l65, mH_l69, mH_l70, mH_l71, mH_l72, mH_l73, mH_l74, mH_l75, mH_c, r0]; rfl) | (show _ = 2; assumption) | (show _ = 1; assumption) | (show _ = 0; assumption) | (show _ = 3; assumption) | (show _ = 4; assumption)) rfl (Nat.le_of_ble_eq_true rfl) (Nat.le_of_ble_eq_true rfl) (m_refP 2 (by omega)) ?_
      rintro _ _ _ ⟨rfl, rfl, rfl⟩
      refine ⟨by show (0 : Nat) ≠ 4; decide, ?_⟩
      rw [if_neg (by show ¬ (0 : Nat) = 3; decide)]
      try dsimp only
      have hM1 := hM0.rf 2
      obtain ⟨v1, hv1⟩ : ∃ v1, v1 = gu v 264 (mv_up (v 264) 0 2) := ⟨_, rfl⟩
      rw [← hv1] at hM1 ⊢
      have z1 : v1 264 0 = 2 := by { rw [hv1, gu_s, up_s] }
      have eo1 : ∀ b : Int, b ≠ 264 → v1 b = v b := fun b hb => by { rw [hv1]; exact gu_n hb }
      have ef1 : ∀ k : Int, k ≠ 0 → v1 264 k = v 264 k := fun k hk => by { rw [hv1, gu_s, up_n hk] }
      have hR1 := hM1.2.1
      have ra1 := hR1.1
      have rb1 := hR1.2.1
      clear hv1
      show mv_Ev _ _ 28 _ _ _ _ _
      refine e_if (t := 33) (pc' := 31) hK rfl (by first | omega | exact bo_i _) (by decide) rfl (fun hb28 => ?_) (fun hb28 => ?_)
      · replace hb28 := cq_eq.1.mp hb28
        try simp only [bo_0, Bool.not_eq_false] at hb28
        exfalso; first | omega | exact absurd trivial (by assumption) | (first | omega | exact bo_i _)
      · replace hb28 := cq_eq.2.mp hb28
        try simp only [bo_0, Bool.not_eq_false] at hb28
        refine e_step (pc' := 32) hK rfl rfl rfl ?_
        refine e_ret hK rfl rfl rfl ?_
        have e9 : sp_charAt W i x = (2, 0, W) := by { unfold sp_charAt; (repeat (first | rw [if_pos (by omega)] | rw [if_neg (by omega)])) }
        rw [e9]
        exact ⟨rfl, rfl, v1, rfl, hM1, z1⟩
  · replace hb9 := cq_ne.2.mp hb9
    try simp only [bo_0, Bool.not_eq_false] at hb9
    simp only [Bool.and_eq_false_iff, decide_eq_false_iff_not] at hb9
    refine e_step (pc' := 13) hK rfl rfl rfl ?_
    refine e_goto (t := 25) hK rfl (by decide) ?_
    refine e_cQV2 (z := 110) hK rfl rfl (by first | (simp (disch := omega) only [mH_t64, mH_r1, mH_r3, mH_r4, mH_r5, mH_r6, mH_r8, mH_r9, mH_r10, mH_r11, mH_r12, mH_r14, mH_i0, mH_i2, mH_i7, mH_i13, mH_i15, mH_t71, mH_t, mH_lr, mH_l65, mH_l69, mH_l70, mH_l71, mH_l72, mH_l73, mH_l74, mH_l75, mH_c, r0]; rfl) | (show _ = 2; assumption) | (show _ = 1; assumption) | (show _ = 0; assumption) | (show _ = 3; assumption) | (show _ = 4; assumption)) rfl (Nat.le_of_ble_eq_true rfl) (Nat.le_of_ble_eq_true rfl) (m_refP 1 (by omega)) ?_
    rintro _ _ _ ⟨rfl, rfl, rfl⟩
    refine ⟨by show (0 : Nat) ≠ 4; decide, ?_⟩
    rw [if_neg (by show ¬ (0 : Nat) = 3; decide)]
    try dsimp only
    have hM1 := hM0.rf 1
    obtain ⟨v1, hv1⟩ : ∃ v1, v1 = gu v 264 (mv_up (v 264) 0 1) := ⟨_, rfl⟩
    rw [← hv1] at hM1 ⊢
    have z1 : v1 264 0 = 1 := by { rw [hv1, gu_s, up_s] }
    have eo1 : ∀ b : Int, b ≠ 264 → v1 b = v b := fun b hb => by { rw [hv1]; exact gu_n hb }
    have ef1 : ∀ k : Int, k ≠ 0 → v1 264 k = v 264 k := fun k hk => by { rw [hv1, gu_s, up_n hk] }
    have hR1 := hM1.2.1
    have ra1 := hR1.1
    have rb1 := hR1.2.1
    clear hv1
    show mv_Ev _ _ 28 _ _ _ _ _
    refine e_if (t := 33) (pc' := 31) hK rfl (by first | omega | exact bo_i _) (by decide) rfl (fun hb28 => ?_) (fun hb28 => ?_)
    · replace hb28 := cq_eq.1.mp hb28
      try simp only [bo_0, Bool.not_eq_false] at hb28
      exfalso; first | omega | exact absurd trivial (by assumption) | (first | omega | exact bo_i _)
    · replace hb28 := cq_eq.2.mp hb28
      try simp only [bo_0, Bool.not_eq_false] at hb28
      refine e_step (pc' := 32) hK rfl rfl rfl ?_
      refine e_ret hK rfl rfl rfl ?_
      have e9 : sp_charAt W i x = (1, 0, W) := by { unfold sp_charAt; (repeat (first | rw [if_pos (by omega)] | rw [if_neg (by omega)])) }
      rw [e9]
      exact ⟨rfl, rfl, v1, rfl, hM1, z1⟩
set_option maxRecDepth 10000 in
theorem g_template {W : wt} (hM : MdA v W) (i : Int) (hi : mv_i i) (x : Int) (hx : mv_i x) : mv_Cl sc q_Mod_template [(2, 264), (0, i), (0, x)] c (mH h v) (fun r c' h' => r = (0, (sp_template W i x).2.1) ∧ c' = c ∧ ∃ w, h' = mH h w ∧ MdA w (sp_template W i x).2.2 ∧ w 264 0 = (sp_template W i x).1) := by
  have hM0 := hM
  obtain ⟨hTx, hR, ⟨hI, bn, bT⟩, hH, hz, hSv⟩ := hM
  have r0 := hR.1
  have r1 := hR.2.1
  show mv_Ev sc 138 0 [(2, 264), (0, i), (0, x)] [] c (mH h v) _
  have hK : (mv_m 138).1 = kc_Mod_template := rfl
  refine e_step (pc' := 1) hK rfl rfl rfl ?_
  refine e_step (pc' := 2) hK rfl rfl rfl ?_
  refine e_getR (ci := 4) (k := 3) (pc' := 5) hK rfl (by simp (disch := omega) only [mH_t64, mH_r1, mH_r3, mH_r4, mH_r5, mH_r6, mH_r8, mH_r9, mH_r10, mH_r11, mH_r12, mH_r14, mH_i0, mH_i2, mH_i7, mH_i13, mH_i15, mH_t71, mH_t, mH_lr, mH_l65, mH_l69, mH_l70, mH_l71, mH_l72, mH_l73, mH_l74, mH_l75, mH_c, r1]) rfl rfl (by decide) (by decide) (by (try simp (disch := omega) only [mH_t64, mH_r1, mH_r3, mH_r4, mH_r5, mH_r6, mH_r8, mH_r9, mH_r10, mH_r11, mH_r12, mH_r14, mH_i0, mH_i2, mH_i7, mH_i13, mH_i15, mH_t71, mH_t, mH_lr, mH_l65, mH_l69, mH_l70, mH_l71, mH_l72, mH_l73, mH_l74, mH_l75, mH_c, r1]); first | omega | exact bo_i _) rfl ?_
  try simp (disch := omega) only [mH_t64, mH_r1, mH_r3, mH_r4, mH_r5, mH_r6, mH_r8, mH_r9, mH_r10, mH_r11, mH_r12, mH_r14, mH_i0, mH_i2, mH_i7, mH_i13, mH_i15, mH_t71, mH_t, mH_lr, mH_l65, mH_l69, mH_l70, mH_l71, mH_l72, mH_l73, mH_l74, mH_l75, mH_c, r1]
  refine e_step (pc' := 6) hK rfl rfl rfl ?_
  refine e_cRS2 (z := 139) (pc' := 9) hK rfl rfl rfl (Nat.le_of_ble_eq_true rfl) (Nat.le_of_ble_eq_true rfl) (m_isTemplate 266 (by omega) i hi (by rw [r1]; omega)) (by decide) rfl ?_
  try simp (disch := omega) only [mH_t64, mH_r1, mH_r3, mH_r4, mH_r5, mH_r6, mH_r8, mH_r9, mH_r10, mH_r11, mH_r12, mH_r14, mH_i0, mH_i2, mH_i7, mH_i13, mH_i15, mH_t71, mH_t, mH_lr, mH_l65, mH_l69, mH_l70, mH_l71, mH_l72, mH_l73, mH_l74, mH_l75, mH_c, r1]
  refine e_if (t := 16) (pc' := 12) hK rfl (by first | omega | exact bo_i _) (by decide) rfl (fun hb9 => ?_) (fun hb9 => ?_)
  · replace hb9 := cq_ne.1.mp hb9
    try simp only [bo_0, Bool.not_eq_false] at hb9
    simp only [Bool.and_eq_true, decide_eq_true_eq] at hb9
    refine e_step (pc' := 17) hK rfl rfl rfl ?_
    refine e_i2l (pc' := 18) hK rfl (by first | omega | exact bo_i _) rfl ?_
    refine e_step (pc' := 19) hK rfl rfl rfl ?_
    show mv_Ev _ _ 19 _ ((1, (0 : Int)) :: _) _ _ _
    refine e_step (pc' := 22) hK rfl rfl rfl ?_
    refine e_cRS3 (z := 109) (pc' := 25) hK rfl rfl rfl (Nat.le_of_ble_eq_true rfl) (Nat.le_of_ble_eq_true rfl) (m_in x 0 5 (by omega) (by omega) (by omega)) (by decide) rfl ?_
    try simp (disch := omega) only [mH_t64, mH_r1, mH_r3, mH_r4, mH_r5, mH_r6, mH_r8, mH_r9, mH_r10, mH_r11, mH_r12, mH_r14, mH_i0, mH_i2, mH_i7, mH_i13, mH_i15, mH_t71, mH_t, mH_lr, mH_l65, mH_l69, mH_l70, mH_l71, mH_l72, mH_l73, mH_l74, mH_l75, mH_c, r1]
    refine e_if (t := 32) (pc' := 28) hK rfl (by first | omega | exact bo_i _) (by decide) rfl (fun hb25 => ?_) (fun hb25 => ?_)
    · replace hb25 := cq_eq.1.mp hb25
      try simp only [bo_0, Bool.not_eq_false] at hb25
      simp only [Bool.and_eq_false_iff, decide_eq_false_iff_not] at hb25
      refine e_step (pc' := 33) hK rfl rfl rfl ?_
      refine e_cQV2 (z := 110) hK rfl rfl (by first | (simp (disch := omega) only [mH_t64, mH_r1, mH_r3, mH_r4, mH_r5, mH_r6, mH_r8, mH_r9, mH_r10, mH_r11, mH_r12, mH_r14, mH_i0, mH_i2, mH_i7, mH_i13, mH_i15, mH_t71, mH_t, mH_lr, mH_l65, mH_l69, mH_l70, mH_l71, mH_l72, mH_l73, mH_l74, mH_l75, mH_c, r1]; rfl) | (show _ = 2; assumption) | (show _ = 1; assumption) | (show _ = 0; assumption) | (show _ = 3; assumption) | (show _ = 4; assumption)) rfl (Nat.le_of_ble_eq_true rfl) (Nat.le_of_ble_eq_true rfl) (m_refP 2 (by omega)) ?_
      rintro _ _ _ ⟨rfl, rfl, rfl⟩
      refine ⟨by show (0 : Nat) ≠ 4; decide, ?_⟩
      rw [if_neg (by show ¬ (0 : Nat) = 3; decide)]
      try dsimp only
      have hM1 := hM0.rf 2
      obtain ⟨v1, hv1⟩ : ∃ v1, v1 = gu v 264 (mv_up (v 264) 0 2) := ⟨_, rfl⟩
      rw [← hv1] at hM1 ⊢
      have z1 : v1 264 0 = 2 := by { rw [hv1, gu_s, up_s] }
      have eo1 : ∀ b : Int, b ≠ 264 → v1 b = v b := fun b hb => by { rw [hv1]; exact gu_n hb }
      have ef1 : ∀ k : Int, k ≠ 0 → v1 264 k = v 264 k := fun k hk => by { rw [hv1, gu_s, up_n hk] }
      have hR1 := hM1.2.1
      have ra1 := hR1.1
      have rb1 := hR1.2.1
      clear hv1
      show mv_Ev _ _ 36 _ _ _ _ _
      refine e_if (t := 41) (pc' := 39) hK rfl (by first | omega | exact bo_i _) (by decide) rfl (fun hb36 => ?_) (fun hb36 => ?_)
      · replace hb36 := cq_eq.1.mp hb36
        try simp only [bo_0, Bool.not_eq_false] at hb36
        exfalso; first | omega | exact absurd trivial (by assumption) | (first | omega | exact bo_i _)
      · replace hb36 := cq_eq.2.mp hb36
        try simp only [bo_0, Bool.not_eq_false] at hb36
        refine e_step (pc' := 40) hK rfl rfl rfl ?_
        refine e_ret hK rfl rfl rfl ?_
        have e9 : sp_template W i x = (2, 0, W) := by { unfold sp_template; (repeat (first | rw [if_pos (by omega)] | rw [if_neg (by omega)])) }
        rw [e9]
        exact ⟨rfl, rfl, v1, rfl, hM1, z1⟩
    · replace hb25 := cq_eq.2.mp hb25
      try simp only [bo_0, Bool.not_eq_false] at hb25
      simp only [Bool.and_eq_true, decide_eq_true_eq] at hb25
      refine e_step (pc' := 29) hK rfl rfl rfl ?_
      refine e_goto (t := 33) hK rfl (by decide) ?_
      refine e_cQV2 (z := 110) hK rfl rfl (by first | (simp (disch := omega) only [mH_t64, mH_r1, mH_r3, mH_r4, mH_r5, mH_r6, mH_r8, mH_r9, mH_r10, mH_r11, mH_r12, mH_r14, mH_i0, mH_i2, mH_i7, mH_i13, mH_i15, mH_t71, mH_t, mH_lr, mH_l65, mH_l69, mH_l70, mH_l71, mH_l72, mH_l73, mH_l74, mH_l75, mH_c, r1]; rfl) | (show _ = 2; assumption) | (show _ = 1; assumption) | (show _ = 0; assumption) | (show _ = 3; assumption) | (show _ = 4; assumption)) rfl (Nat.le_of_ble_eq_true rfl) (Nat.le_of_ble_eq_true rfl) (m_ref0) ?_
      rintro _ _ _ ⟨rfl, rfl, rfl⟩
      refine ⟨by show (0 : Nat) ≠ 4; decide, ?_⟩
      rw [if_neg (by show ¬ (0 : Nat) = 3; decide)]
      try dsimp only
      have hM1 := hM0.rf 0
      obtain ⟨v1, hv1⟩ : ∃ v1, v1 = gu v 264 (mv_up (v 264) 0 0) := ⟨_, rfl⟩
      rw [← hv1] at hM1 ⊢
      have z1 : v1 264 0 = 0 := by { rw [hv1, gu_s, up_s] }
      have eo1 : ∀ b : Int, b ≠ 264 → v1 b = v b := fun b hb => by { rw [hv1]; exact gu_n hb }
      have ef1 : ∀ k : Int, k ≠ 0 → v1 264 k = v 264 k := fun k hk => by { rw [hv1, gu_s, up_n hk] }
      have hR1 := hM1.2.1
      have ra1 := hR1.1
      have rb1 := hR1.2.1
      clear hv1
      show mv_Ev _ _ 36 _ _ _ _ _
      refine e_if (t := 41) (pc' := 39) hK rfl (by first | omega | exact bo_i _) (by decide) rfl (fun hb36 => ?_) (fun hb36 => ?_)
      · replace hb36 := cq_eq.1.mp hb36
        try simp only [bo_0, Bool.not_eq_false] at hb36
        have i0 : 0 ≤ i ∧ i < gT (wA W) := by omega
        have tr := hR1.2.2.2 i i0.1 i0.2
        have rt := tr.1
        have egs := gs_S (A := wA W) i0.1 i0.2
        have lb := xn_b (gSok hI i0.1 i0.2)
        refine e_step (pc' := 42) hK rfl rfl rfl ?_
        refine e_tsw (td := 131) hK rfl (by first | omega | exact bo_i _) rfl (by decide) (by decide) (fun hb42 => ?_) (fun j hj hb42 => ?_)
        · skip
          refine e_step (pc' := 132) hK rfl rfl rfl ?_
          refine e_getR (ci := 4) (k := 3) (pc' := 135) hK rfl (by simp (disch := omega) only [mH_t64, mH_r1, mH_r3, mH_r4, mH_r5, mH_r6, mH_r8, mH_r9, mH_r10, mH_r11, mH_r12, mH_r14, mH_i0, mH_i2, mH_i7, mH_i13, mH_i15, mH_t71, mH_t, mH_lr, mH_l65, mH_l69, mH_l70, mH_l71, mH_l72, mH_l73, mH_l74, mH_l75, mH_c, r1, ra1, rb1, rt]) rfl rfl (by decide) (by decide) (by (try simp (disch := omega) only [mH_t64, mH_r1, mH_r3, mH_r4, mH_r5, mH_r6, mH_r8, mH_r9, mH_r10, mH_r11, mH_r12, mH_r14, mH_i0, mH_i2, mH_i7, mH_i13, mH_i15, mH_t71, mH_t, mH_lr, mH_l65, mH_l69, mH_l70, mH_l71, mH_l72, mH_l73, mH_l74, mH_l75, mH_c, r1, ra1, rb1, rt]); first | omega | exact bo_i _) rfl ?_
          try simp (disch := omega) only [mH_t64, mH_r1, mH_r3, mH_r4, mH_r5, mH_r6, mH_r8, mH_r9, mH_r10, mH_r11, mH_r12, mH_r14, mH_i0, mH_i2, mH_i7, mH_i13, mH_i15, mH_t71, mH_t, mH_lr, mH_l65, mH_l69, mH_l70, mH_l71, mH_l72, mH_l73, mH_l74, mH_l75, mH_c, r1, ra1, rb1, rt]
          refine e_step (pc' := 136) hK rfl rfl rfl ?_
          refine e_cRS2 (z := 129) (pc' := 139) hK rfl rfl rfl (Nat.le_of_ble_eq_true rfl) (Nat.le_of_ble_eq_true rfl) (m_first 266 (by omega) hR1 hI i i0.1 i0.2) (by decide) rfl ?_
          try simp (disch := omega) only [mH_t64, mH_r1, mH_r3, mH_r4, mH_r5, mH_r6, mH_r8, mH_r9, mH_r10, mH_r11, mH_r12, mH_r14, mH_i0, mH_i2, mH_i7, mH_i13, mH_i15, mH_t71, mH_t, mH_lr, mH_l65, mH_l69, mH_l70, mH_l71, mH_l72, mH_l73, mH_l74, mH_l75, mH_c, r1, ra1, rb1, rt]
          refine e_ret hK rfl rfl rfl ?_
          have e9 : sp_template W i x = (0, gfi (wA W) i, W) := by { unfold sp_template; (repeat (first | rw [if_pos (by omega)] | rw [if_neg (by omega)])) }
          rw [e9]
          exact ⟨rfl, rfl, v1, rfl, hM1, z1⟩
        · skip
          rcases j with _ | j
          · show mv_Ev _ _ 76 _ _ _ _ _
            refine e_step (pc' := 77) hK rfl rfl rfl ?_
            refine e_getR (ci := 4) (k := 3) (pc' := 80) hK rfl (by simp (disch := omega) only [mH_t64, mH_r1, mH_r3, mH_r4, mH_r5, mH_r6, mH_r8, mH_r9, mH_r10, mH_r11, mH_r12, mH_r14, mH_i0, mH_i2, mH_i7, mH_i13, mH_i15, mH_t71, mH_t, mH_lr, mH_l65, mH_l69, mH_l70, mH_l71, mH_l72, mH_l73, mH_l74, mH_l75, mH_c, r1, ra1, rb1, rt]) rfl rfl (by decide) (by decide) (by (try simp (disch := omega) only [mH_t64, mH_r1, mH_r3, mH_r4, mH_r5, mH_r6, mH_r8, mH_r9, mH_r10, mH_r11, mH_r12, mH_r14, mH_i0, mH_i2, mH_i7, mH_i13, mH_i15, mH_t71, mH_t, mH_lr, mH_l65, mH_l69, mH_l70, mH_l71, mH_l72, mH_l73, mH_l74, mH_l75, mH_c, r1, ra1, rb1, rt]); first | omega | exact bo_i _) rfl ?_
            try simp (disch := omega) only [mH_t64, mH_r1, mH_r3, mH_r4, mH_r5, mH_r6, mH_r8, mH_r9, mH_r10, mH_r11, mH_r12, mH_r14, mH_i0, mH_i2, mH_i7, mH_i13, mH_i15, mH_t71, mH_t, mH_lr, mH_l65, mH_l69, mH_l70, mH_l71, mH_l72, mH_l73, mH_l74, mH_l75, mH_c, r1, ra1, rb1, rt]
            refine e_step (pc' := 81) hK rfl rfl rfl ?_
            refine e_cRS1 (z := 119) (pc' := 84) hK rfl rfl rfl (Nat.le_of_ble_eq_true rfl) (Nat.le_of_ble_eq_true rfl) (m_tempAt i) (by decide) rfl ?_
            try simp (disch := omega) only [mH_t64, mH_r1, mH_r3, mH_r4, mH_r5, mH_r6, mH_r8, mH_r9, mH_r10, mH_r11, mH_r12, mH_r14, mH_i0, mH_i2, mH_i7, mH_i13, mH_i15, mH_t71, mH_t, mH_lr, mH_l65, mH_l69, mH_l70, mH_l71, mH_l72, mH_l73, mH_l74, mH_l75, mH_c, r1, ra1, rb1, rt]
            refine e_iald (pc' := 85) hK rfl (by simp (disch := omega) only [mH_t64, mH_r1, mH_r3, mH_r4, mH_r5, mH_r6, mH_r8, mH_r9, mH_r10, mH_r11, mH_r12, mH_r14, mH_i0, mH_i2, mH_i7, mH_i13, mH_i15, mH_t71, mH_t, mH_lr, mH_l65, mH_l69, mH_l70, mH_l71, mH_l72, mH_l73, mH_l74, mH_l75, mH_c, r1, ra1, rb1, rt]) (by first | omega | exact bo_i _) (by (try simp (disch := omega) only [mH_t64, mH_r1, mH_r3, mH_r4, mH_r5, mH_r6, mH_r8, mH_r9, mH_r10, mH_r11, mH_r12, mH_r14, mH_i0, mH_i2, mH_i7, mH_i13, mH_i15, mH_t71, mH_t, mH_lr, mH_l65, mH_l69, mH_l70, mH_l71, mH_l72, mH_l73, mH_l74, mH_l75, mH_c, r1, ra1, rb1, rt]); first | omega | exact bo_i _) rfl ?_
            try simp (disch := omega) only [mH_t64, mH_r1, mH_r3, mH_r4, mH_r5, mH_r6, mH_r8, mH_r9, mH_r10, mH_r11, mH_r12, mH_r14, mH_i0, mH_i2, mH_i7, mH_i13, mH_i15, mH_t71, mH_t, mH_lr, mH_l65, mH_l69, mH_l70, mH_l71, mH_l72, mH_l73, mH_l74, mH_l75, mH_c, r1, ra1, rb1, rt]
            refine e_ret hK rfl rfl rfl ?_
            have e9 : sp_template W i x = (0, xn (gS (wA W) i), W) := by { unfold sp_template; rw [egs]; (repeat (first | rw [if_pos (by omega)] | rw [if_neg (by omega)])) }
            rw [e9]
            exact ⟨rfl, rfl, v1, rfl, hM1, z1⟩
          · skip
            rcases j with _ | j
            · show mv_Ev _ _ 86 _ _ _ _ _
              refine e_step (pc' := 87) hK rfl rfl rfl ?_
              refine e_getR (ci := 4) (k := 3) (pc' := 90) hK rfl (by simp (disch := omega) only [mH_t64, mH_r1, mH_r3, mH_r4, mH_r5, mH_r6, mH_r8, mH_r9, mH_r10, mH_r11, mH_r12, mH_r14, mH_i0, mH_i2, mH_i7, mH_i13, mH_i15, mH_t71, mH_t, mH_lr, mH_l65, mH_l69, mH_l70, mH_l71, mH_l72, mH_l73, mH_l74, mH_l75, mH_c, r1, ra1, rb1, rt]) rfl rfl (by decide) (by decide) (by (try simp (disch := omega) only [mH_t64, mH_r1, mH_r3, mH_r4, mH_r5, mH_r6, mH_r8, mH_r9, mH_r10, mH_r11, mH_r12, mH_r14, mH_i0, mH_i2, mH_i7, mH_i13, mH_i15, mH_t71, mH_t, mH_lr, mH_l65, mH_l69, mH_l70, mH_l71, mH_l72, mH_l73, mH_l74, mH_l75, mH_c, r1, ra1, rb1, rt]); first | omega | exact bo_i _) rfl ?_
              try simp (disch := omega) only [mH_t64, mH_r1, mH_r3, mH_r4, mH_r5, mH_r6, mH_r8, mH_r9, mH_r10, mH_r11, mH_r12, mH_r14, mH_i0, mH_i2, mH_i7, mH_i13, mH_i15, mH_t71, mH_t, mH_lr, mH_l65, mH_l69, mH_l70, mH_l71, mH_l72, mH_l73, mH_l74, mH_l75, mH_c, r1, ra1, rb1, rt]
              refine e_step (pc' := 91) hK rfl rfl rfl ?_
              refine e_step (pc' := 92) hK rfl rfl rfl ?_
              refine e_getR (ci := 4) (k := 3) (pc' := 95) hK rfl (by simp (disch := omega) only [mH_t64, mH_r1, mH_r3, mH_r4, mH_r5, mH_r6, mH_r8, mH_r9, mH_r10, mH_r11, mH_r12, mH_r14, mH_i0, mH_i2, mH_i7, mH_i13, mH_i15, mH_t71, mH_t, mH_lr, mH_l65, mH_l69, mH_l70, mH_l71, mH_l72, mH_l73, mH_l74, mH_l75, mH_c, r1, ra1, rb1, rt]) rfl rfl (by decide) (by decide) (by (try simp (disch := omega) only [mH_t64, mH_r1, mH_r3, mH_r4, mH_r5, mH_r6, mH_r8, mH_r9, mH_r10, mH_r11, mH_r12, mH_r14, mH_i0, mH_i2, mH_i7, mH_i13, mH_i15, mH_t71, mH_t, mH_lr, mH_l65, mH_l69, mH_l70, mH_l71, mH_l72, mH_l73, mH_l74, mH_l75, mH_c, r1, ra1, rb1, rt]); first | omega | exact bo_i _) rfl ?_
              try simp (disch := omega) only [mH_t64, mH_r1, mH_r3, mH_r4, mH_r5, mH_r6, mH_r8, mH_r9, mH_r10, mH_r11, mH_r12, mH_r14, mH_i0, mH_i2, mH_i7, mH_i13, mH_i15, mH_t71, mH_t, mH_lr, mH_l65, mH_l69, mH_l70, mH_l71, mH_l72, mH_l73, mH_l74, mH_l75, mH_c, r1, ra1, rb1, rt]
              refine e_step (pc' := 96) hK rfl rfl rfl ?_
              refine e_iald (pc' := 97) hK rfl (by simp (disch := omega) only [mH_t64, mH_r1, mH_r3, mH_r4, mH_r5, mH_r6, mH_r8, mH_r9, mH_r10, mH_r11, mH_r12, mH_r14, mH_i0, mH_i2, mH_i7, mH_i13, mH_i15, mH_t71, mH_t, mH_lr, mH_l65, mH_l69, mH_l70, mH_l71, mH_l72, mH_l73, mH_l74, mH_l75, mH_c, r1, ra1, rb1, rt]) (by first | omega | exact bo_i _) (by (try simp (disch := omega) only [mH_t64, mH_r1, mH_r3, mH_r4, mH_r5, mH_r6, mH_r8, mH_r9, mH_r10, mH_r11, mH_r12, mH_r14, mH_i0, mH_i2, mH_i7, mH_i13, mH_i15, mH_t71, mH_t, mH_lr, mH_l65, mH_l69, mH_l70, mH_l71, mH_l72, mH_l73, mH_l74, mH_l75, mH_c, r1, ra1, rb1, rt]); first | omega | exact bo_i _) rfl ?_
              try simp (disch := omega) only [mH_t64, mH_r1, mH_r3, mH_r4, mH_r5, mH_r6, mH_r8, mH_r9, mH_r10, mH_r11, mH_r12, mH_r14, mH_i0, mH_i2, mH_i7, mH_i13, mH_i15, mH_t71, mH_t, mH_lr, mH_l65, mH_l69, mH_l70, mH_l71, mH_l72, mH_l73, mH_l74, mH_l75, mH_c, r1, ra1, rb1, rt]
              refine e_cRS3 (z := 135) (pc' := 100) hK rfl rfl rfl (Nat.le_of_ble_eq_true rfl) (Nat.le_of_ble_eq_true rfl) (m_linesOf 266 (by omega) hR1 hI i (by omega) (gn (wA W)) (by omega) (by omega)) (by decide) rfl ?_
              try simp (disch := omega) only [mH_t64, mH_r1, mH_r3, mH_r4, mH_r5, mH_r6, mH_r8, mH_r9, mH_r10, mH_r11, mH_r12, mH_r14, mH_i0, mH_i2, mH_i7, mH_i13, mH_i15, mH_t71, mH_t, mH_lr, mH_l65, mH_l69, mH_l70, mH_l71, mH_l72, mH_l73, mH_l74, mH_l75, mH_c, r1, ra1, rb1, rt]
              refine e_ret hK rfl rfl rfl ?_
              have e9 : sp_template W i x = (0, lc (fun k => decide (gP (wA W) k = i)) ((gn (wA W) : Nat) : Int).toNat, W) := by { unfold sp_template; rw [clb_lc (by omega) (by omega)]; (repeat (first | rw [if_pos (by omega)] | rw [if_neg (by omega)])) }
              rw [e9]
              exact ⟨rfl, rfl, v1, rfl, hM1, z1⟩
            · skip
              rcases j with _ | j
              · show mv_Ev _ _ 101 _ _ _ _ _
                refine e_step (pc' := 102) hK rfl rfl rfl ?_
                refine e_getR (ci := 4) (k := 3) (pc' := 105) hK rfl (by simp (disch := omega) only [mH_t64, mH_r1, mH_r3, mH_r4, mH_r5, mH_r6, mH_r8, mH_r9, mH_r10, mH_r11, mH_r12, mH_r14, mH_i0, mH_i2, mH_i7, mH_i13, mH_i15, mH_t71, mH_t, mH_lr, mH_l65, mH_l69, mH_l70, mH_l71, mH_l72, mH_l73, mH_l74, mH_l75, mH_c, r1, ra1, rb1, rt]) rfl rfl (by decide) (by decide) (by (try simp (disch := omega) only [mH_t64, mH_r1, mH_r3, mH_r4, mH_r5, mH_r6, mH_r8, mH_r9, mH_r10, mH_r11, mH_r12, mH_r14, mH_i0, mH_i2, mH_i7, mH_i13, mH_i15, mH_t71, mH_t, mH_lr, mH_l65, mH_l69, mH_l70, mH_l71, mH_l72, mH_l73, mH_l74, mH_l75, mH_c, r1, ra1, rb1, rt]); first | omega | exact bo_i _) rfl ?_
                try simp (disch := omega) only [mH_t64, mH_r1, mH_r3, mH_r4, mH_r5, mH_r6, mH_r8, mH_r9, mH_r10, mH_r11, mH_r12, mH_r14, mH_i0, mH_i2, mH_i7, mH_i13, mH_i15, mH_t71, mH_t, mH_lr, mH_l65, mH_l69, mH_l70, mH_l71, mH_l72, mH_l73, mH_l74, mH_l75, mH_c, r1, ra1, rb1, rt]
                refine e_step (pc' := 106) hK rfl rfl rfl ?_
                refine e_step (pc' := 107) hK rfl rfl rfl ?_
                refine e_cRS3 (z := 132) (pc' := 110) hK rfl rfl rfl (Nat.le_of_ble_eq_true rfl) (Nat.le_of_ble_eq_true rfl) (m_slots 266 (by omega) hR1 hI i i0.1 i0.2 3 (by omega)) (by decide) rfl ?_
                try simp (disch := omega) only [mH_t64, mH_r1, mH_r3, mH_r4, mH_r5, mH_r6, mH_r8, mH_r9, mH_r10, mH_r11, mH_r12, mH_r14, mH_i0, mH_i2, mH_i7, mH_i13, mH_i15, mH_t71, mH_t, mH_lr, mH_l65, mH_l69, mH_l70, mH_l71, mH_l72, mH_l73, mH_l74, mH_l75, mH_c, r1, ra1, rb1, rt]
                refine e_ret hK rfl rfl rfl ?_
                have e9 : sp_template W i x = (0, csl (wA W) i 3, W) := by { unfold sp_template; (repeat (first | rw [if_pos (by omega)] | rw [if_neg (by omega)])) }
                rw [e9]
                exact ⟨rfl, rfl, v1, rfl, hM1, z1⟩
              · skip
                rcases j with _ | j
                · show mv_Ev _ _ 111 _ _ _ _ _
                  refine e_step (pc' := 112) hK rfl rfl rfl ?_
                  refine e_getR (ci := 4) (k := 3) (pc' := 115) hK rfl (by simp (disch := omega) only [mH_t64, mH_r1, mH_r3, mH_r4, mH_r5, mH_r6, mH_r8, mH_r9, mH_r10, mH_r11, mH_r12, mH_r14, mH_i0, mH_i2, mH_i7, mH_i13, mH_i15, mH_t71, mH_t, mH_lr, mH_l65, mH_l69, mH_l70, mH_l71, mH_l72, mH_l73, mH_l74, mH_l75, mH_c, r1, ra1, rb1, rt]) rfl rfl (by decide) (by decide) (by (try simp (disch := omega) only [mH_t64, mH_r1, mH_r3, mH_r4, mH_r5, mH_r6, mH_r8, mH_r9, mH_r10, mH_r11, mH_r12, mH_r14, mH_i0, mH_i2, mH_i7, mH_i13, mH_i15, mH_t71, mH_t, mH_lr, mH_l65, mH_l69, mH_l70, mH_l71, mH_l72, mH_l73, mH_l74, mH_l75, mH_c, r1, ra1, rb1, rt]); first | omega | exact bo_i _) rfl ?_
                  try simp (disch := omega) only [mH_t64, mH_r1, mH_r3, mH_r4, mH_r5, mH_r6, mH_r8, mH_r9, mH_r10, mH_r11, mH_r12, mH_r14, mH_i0, mH_i2, mH_i7, mH_i13, mH_i15, mH_t71, mH_t, mH_lr, mH_l65, mH_l69, mH_l70, mH_l71, mH_l72, mH_l73, mH_l74, mH_l75, mH_c, r1, ra1, rb1, rt]
                  refine e_step (pc' := 116) hK rfl rfl rfl ?_
                  refine e_step (pc' := 117) hK rfl rfl rfl ?_
                  refine e_cRS3 (z := 132) (pc' := 120) hK rfl rfl rfl (Nat.le_of_ble_eq_true rfl) (Nat.le_of_ble_eq_true rfl) (m_slots 266 (by omega) hR1 hI i i0.1 i0.2 4 (by omega)) (by decide) rfl ?_
                  try simp (disch := omega) only [mH_t64, mH_r1, mH_r3, mH_r4, mH_r5, mH_r6, mH_r8, mH_r9, mH_r10, mH_r11, mH_r12, mH_r14, mH_i0, mH_i2, mH_i7, mH_i13, mH_i15, mH_t71, mH_t, mH_lr, mH_l65, mH_l69, mH_l70, mH_l71, mH_l72, mH_l73, mH_l74, mH_l75, mH_c, r1, ra1, rb1, rt]
                  refine e_ret hK rfl rfl rfl ?_
                  have e9 : sp_template W i x = (0, csl (wA W) i 4, W) := by { unfold sp_template; (repeat (first | rw [if_pos (by omega)] | rw [if_neg (by omega)])) }
                  rw [e9]
                  exact ⟨rfl, rfl, v1, rfl, hM1, z1⟩
                · skip
                  rcases j with _ | j
                  · show mv_Ev _ _ 121 _ _ _ _ _
                    refine e_step (pc' := 122) hK rfl rfl rfl ?_
                    refine e_step (pc' := 123) hK rfl rfl rfl ?_
                    refine e_getR (ci := 4) (k := 3) (pc' := 126) hK rfl (by simp (disch := omega) only [mH_t64, mH_r1, mH_r3, mH_r4, mH_r5, mH_r6, mH_r8, mH_r9, mH_r10, mH_r11, mH_r12, mH_r14, mH_i0, mH_i2, mH_i7, mH_i13, mH_i15, mH_t71, mH_t, mH_lr, mH_l65, mH_l69, mH_l70, mH_l71, mH_l72, mH_l73, mH_l74, mH_l75, mH_c, r1, ra1, rb1, rt]) rfl rfl (by decide) (by decide) (by (try simp (disch := omega) only [mH_t64, mH_r1, mH_r3, mH_r4, mH_r5, mH_r6, mH_r8, mH_r9, mH_r10, mH_r11, mH_r12, mH_r14, mH_i0, mH_i2, mH_i7, mH_i13, mH_i15, mH_t71, mH_t, mH_lr, mH_l65, mH_l69, mH_l70, mH_l71, mH_l72, mH_l73, mH_l74, mH_l75, mH_c, r1, ra1, rb1, rt]); first | omega | exact bo_i _) rfl ?_
                    try simp (disch := omega) only [mH_t64, mH_r1, mH_r3, mH_r4, mH_r5, mH_r6, mH_r8, mH_r9, mH_r10, mH_r11, mH_r12, mH_r14, mH_i0, mH_i2, mH_i7, mH_i13, mH_i15, mH_t71, mH_t, mH_lr, mH_l65, mH_l69, mH_l70, mH_l71, mH_l72, mH_l73, mH_l74, mH_l75, mH_c, r1, ra1, rb1, rt]
                    refine e_step (pc' := 127) hK rfl rfl rfl ?_
                    refine e_cQV3 (z := 128) hK rfl rfl (by first | (simp (disch := omega) only [mH_t64, mH_r1, mH_r3, mH_r4, mH_r5, mH_r6, mH_r8, mH_r9, mH_r10, mH_r11, mH_r12, mH_r14, mH_i0, mH_i2, mH_i7, mH_i13, mH_i15, mH_t71, mH_t, mH_lr, mH_l65, mH_l69, mH_l70, mH_l71, mH_l72, mH_l73, mH_l74, mH_l75, mH_c, r1, ra1, rb1, rt]; rfl) | (show _ = 2; assumption) | (show _ = 1; assumption) | (show _ = 0; assumption) | (show _ = 3; assumption) | (show _ = 4; assumption)) rfl (Nat.le_of_ble_eq_true rfl) (Nat.le_of_ble_eq_true rfl) (m_costTemp 266 (by omega) hR1 hI i i0.1 i0.2) ?_
                    rintro _ _ _ ⟨rfl, rfl, w, rfl, hw⟩
                    refine ⟨by show (0 : Nat) ≠ 4; decide, ?_⟩
                    rw [if_neg (by show ¬ (0 : Nat) = 3; decide)]
                    try dsimp only
                    show mv_Ev _ _ 130 _ _ _ _ _
                    refine e_ret hK rfl rfl rfl ?_
                    have e9 : sp_template W i x = (0, cot (wA W) i, W) := by { unfold sp_template; (repeat (first | rw [if_pos (by omega)] | rw [if_neg (by omega)])) }
                    rw [e9]
                    exact ⟨rfl, rfl, w, rfl, hM1.ms hw, (congrFun (hw 264 (by omega) (by omega) (by omega)) 0).trans z1⟩
                  · skip
                    exact absurd hj (by show ¬ _ < 5; omega)
      · replace hb36 := cq_eq.2.mp hb36
        try simp only [bo_0, Bool.not_eq_false] at hb36
        exfalso; first | omega | exact absurd trivial (by assumption) | (first | omega | exact bo_i _)
  · replace hb9 := cq_ne.2.mp hb9
    try simp only [bo_0, Bool.not_eq_false] at hb9
    simp only [Bool.and_eq_false_iff, decide_eq_false_iff_not] at hb9
    refine e_step (pc' := 13) hK rfl rfl rfl ?_
    refine e_goto (t := 33) hK rfl (by decide) ?_
    refine e_cQV2 (z := 110) hK rfl rfl (by first | (simp (disch := omega) only [mH_t64, mH_r1, mH_r3, mH_r4, mH_r5, mH_r6, mH_r8, mH_r9, mH_r10, mH_r11, mH_r12, mH_r14, mH_i0, mH_i2, mH_i7, mH_i13, mH_i15, mH_t71, mH_t, mH_lr, mH_l65, mH_l69, mH_l70, mH_l71, mH_l72, mH_l73, mH_l74, mH_l75, mH_c, r1]; rfl) | (show _ = 2; assumption) | (show _ = 1; assumption) | (show _ = 0; assumption) | (show _ = 3; assumption) | (show _ = 4; assumption)) rfl (Nat.le_of_ble_eq_true rfl) (Nat.le_of_ble_eq_true rfl) (m_refP 1 (by omega)) ?_
    rintro _ _ _ ⟨rfl, rfl, rfl⟩
    refine ⟨by show (0 : Nat) ≠ 4; decide, ?_⟩
    rw [if_neg (by show ¬ (0 : Nat) = 3; decide)]
    try dsimp only
    have hM1 := hM0.rf 1
    obtain ⟨v1, hv1⟩ : ∃ v1, v1 = gu v 264 (mv_up (v 264) 0 1) := ⟨_, rfl⟩
    rw [← hv1] at hM1 ⊢
    have z1 : v1 264 0 = 1 := by { rw [hv1, gu_s, up_s] }
    have eo1 : ∀ b : Int, b ≠ 264 → v1 b = v b := fun b hb => by { rw [hv1]; exact gu_n hb }
    have ef1 : ∀ k : Int, k ≠ 0 → v1 264 k = v 264 k := fun k hk => by { rw [hv1, gu_s, up_n hk] }
    have hR1 := hM1.2.1
    have ra1 := hR1.1
    have rb1 := hR1.2.1
    clear hv1
    show mv_Ev _ _ 36 _ _ _ _ _
    refine e_if (t := 41) (pc' := 39) hK rfl (by first | omega | exact bo_i _) (by decide) rfl (fun hb36 => ?_) (fun hb36 => ?_)
    · replace hb36 := cq_eq.1.mp hb36
      try simp only [bo_0, Bool.not_eq_false] at hb36
      exfalso; first | omega | exact absurd trivial (by assumption) | (first | omega | exact bo_i _)
    · replace hb36 := cq_eq.2.mp hb36
      try simp only [bo_0, Bool.not_eq_false] at hb36
      refine e_step (pc' := 40) hK rfl rfl rfl ?_
      refine e_ret hK rfl rfl rfl ?_
      have e9 : sp_template W i x = (1, 0, W) := by { unfold sp_template; (repeat (first | rw [if_pos (by omega)] | rw [if_neg (by omega)])) }
      rw [e9]
      exact ⟨rfl, rfl, v1, rfl, hM1, z1⟩
end GA
