/-! the reference: words, values, lines of a template (written by wip/whole/m42.py) -/
section MD
variable {sc : Int × (Int → Int)} {c : mv_C} {h : mv_H} {v : mvt}
set_option maxRecDepth 10000 in
theorem m_same1 (a : Int) (ha : 266 ≤ a ∧ a ≤ 268) (U W : Int) (hU : 0 ≤ U ∧ U < 24) (hW : 0 ≤ W ∧ W < 24) (zx zy sx sy : Int) (f g : Int → Int) (z1 : v 273 U = zx) (z2 : v 273 W = zy) (hz : 0 ≤ zx ∧ zx ≤ 40) (hz2 : 0 ≤ zy ∧ zy ≤ 40) (bU : 0 ≤ v 272 U ∧ v 272 U ≤ 1100) (bW : 0 ≤ v 272 W ∧ v 272 W ≤ 1100) (gx : ∀ k : Int, 0 ≤ k → k < zx → v a (v 272 U + k) = f (sx + k) ∧ mv_i (f (sx + k))) (gy : ∀ k : Int, 0 ≤ k → k < zy → v a (v 272 W + k) = g (sy + k) ∧ mv_i (g (sy + k))) : ∀ (m : Nat) (k : Nat) (b : Bool), k + m = zx.toNat ∧ b = (decide (zx = zy) && px_e f g sx sy k) → mv_Ev sc 126 25 [(2, 264), (2, a), (0, U), (0, W), (0, mv_bo b), (0, (k : Int))] [] c (mH h v) (mv_Rd (0, mv_bo (decide (zx = zy) && px_e f g sx sy zx.toNat)) c (mH h v)) := by
  intro m
  induction m with
  | zero =>
    intro k b ⟨hk, hb⟩
    have hK : (mv_m 126).1 = kc_Mod_areSame := rfl
    refine e_step (pc' := 27) hK rfl rfl rfl ?_
    refine e_step (pc' := 28) hK rfl rfl rfl ?_
    refine e_getR (ci := 4) (k := 11) (pc' := 31) hK rfl (by simp (disch := omega) only [mH_t64, mH_r1, mH_r3, mH_r4, mH_r5, mH_r6, mH_r8, mH_r9, mH_r10, mH_r11, mH_r12, mH_r14, mH_i0, mH_i2, mH_i7, mH_i13, mH_i15, mH_t71, mH_t, mH_lr, mH_l65, mH_l69, mH_l70, mH_l71, mH_l72, mH_l73, mH_l74, mH_l75, mH_c, z1, z2]) rfl rfl (by decide) (by decide) (by (try simp (disch := omega) only [mH_t64, mH_r1, mH_r3, mH_r4, mH_r5, mH_r6, mH_r8, mH_r9, mH_r10, mH_r11, mH_r12, mH_r14, mH_i0, mH_i2, mH_i7, mH_i13, mH_i15, mH_t71, mH_t, mH_lr, mH_l65, mH_l69, mH_l70, mH_l71, mH_l72, mH_l73, mH_l74, mH_l75, mH_c, z1, z2]); first | omega | exact bo_i _) rfl ?_
    try simp (disch := omega) only [mH_t64, mH_r1, mH_r3, mH_r4, mH_r5, mH_r6, mH_r8, mH_r9, mH_r10, mH_r11, mH_r12, mH_r14, mH_i0, mH_i2, mH_i7, mH_i13, mH_i15, mH_t71, mH_t, mH_lr, mH_l65, mH_l69, mH_l70, mH_l71, mH_l72, mH_l73, mH_l74, mH_l75, mH_c, z1, z2]
    refine e_step (pc' := 32) hK rfl rfl rfl ?_
    refine e_iald (pc' := 33) hK rfl (by simp (disch := omega) only [mH_t64, mH_r1, mH_r3, mH_r4, mH_r5, mH_r6, mH_r8, mH_r9, mH_r10, mH_r11, mH_r12, mH_r14, mH_i0, mH_i2, mH_i7, mH_i13, mH_i15, mH_t71, mH_t, mH_lr, mH_l65, mH_l69, mH_l70, mH_l71, mH_l72, mH_l73, mH_l74, mH_l75, mH_c, z1, z2]) (by first | omega | exact bo_i _) (by (try simp (disch := omega) only [mH_t64, mH_r1, mH_r3, mH_r4, mH_r5, mH_r6, mH_r8, mH_r9, mH_r10, mH_r11, mH_r12, mH_r14, mH_i0, mH_i2, mH_i7, mH_i13, mH_i15, mH_t71, mH_t, mH_lr, mH_l65, mH_l69, mH_l70, mH_l71, mH_l72, mH_l73, mH_l74, mH_l75, mH_c, z1, z2]); first | omega | exact bo_i _) rfl ?_
    try simp (disch := omega) only [mH_t64, mH_r1, mH_r3, mH_r4, mH_r5, mH_r6, mH_r8, mH_r9, mH_r10, mH_r11, mH_r12, mH_r14, mH_i0, mH_i2, mH_i7, mH_i13, mH_i15, mH_t71, mH_t, mH_lr, mH_l65, mH_l69, mH_l70, mH_l71, mH_l72, mH_l73, mH_l74, mH_l75, mH_c, z1, z2]
    refine e_icmp (t := 79) (pc' := 36) hK rfl (by first | omega | exact bo_i _) (by first | omega | exact bo_i _) (by decide) rfl (fun hb33 => ?_) (fun hb33 => ?_)
    · replace hb33 := cq_ge.1.mp hb33
      try simp only [bo_0, Bool.not_eq_false] at hb33
      refine e_step (pc' := 81) hK rfl rfl rfl ?_
      refine e_ret hK rfl rfl (by first | rfl | (simp only [mv_ret]; rw [if_pos]; exact Or.inr ⟨rfl, by omega⟩) | (simp only [mv_ret]; rw [if_pos]; exact Or.inr ⟨rfl, by unfold mv_bo; split <;> first | exact Or.inl rfl | exact Or.inr rfl⟩)) ?_
      have e : k = zx.toNat := by omega
      rw [← e, ← hb]
      exact ⟨rfl, rfl, rfl⟩
    · replace hb33 := cq_ge.2.mp hb33
      try simp only [bo_0, Bool.not_eq_false] at hb33
      exfalso; first | omega | exact absurd trivial (by assumption) | (first | omega | exact bo_i _)
  | succ m ih =>
    intro k b ⟨hk, hb⟩
    have hK : (mv_m 126).1 = kc_Mod_areSame := rfl
    refine e_step (pc' := 27) hK rfl rfl rfl ?_
    refine e_step (pc' := 28) hK rfl rfl rfl ?_
    refine e_getR (ci := 4) (k := 11) (pc' := 31) hK rfl (by simp (disch := omega) only [mH_t64, mH_r1, mH_r3, mH_r4, mH_r5, mH_r6, mH_r8, mH_r9, mH_r10, mH_r11, mH_r12, mH_r14, mH_i0, mH_i2, mH_i7, mH_i13, mH_i15, mH_t71, mH_t, mH_lr, mH_l65, mH_l69, mH_l70, mH_l71, mH_l72, mH_l73, mH_l74, mH_l75, mH_c, z1, z2]) rfl rfl (by decide) (by decide) (by (try simp (disch := omega) only [mH_t64, mH_r1, mH_r3, mH_r4, mH_r5, mH_r6, mH_r8, mH_r9, mH_r10, mH_r11, mH_r12, mH_r14, mH_i0, mH_i2, mH_i7, mH_i13, mH_i15, mH_t71, mH_t, mH_lr, mH_l65, mH_l69, mH_l70, mH_l71, mH_l72, mH_l73, mH_l74, mH_l75, mH_c, z1, z2]); first | omega | exact bo_i _) rfl ?_
    try simp (disch := omega) only [mH_t64, mH_r1, mH_r3, mH_r4, mH_r5, mH_r6, mH_r8, mH_r9, mH_r10, mH_r11, mH_r12, mH_r14, mH_i0, mH_i2, mH_i7, mH_i13, mH_i15, mH_t71, mH_t, mH_lr, mH_l65, mH_l69, mH_l70, mH_l71, mH_l72, mH_l73, mH_l74, mH_l75, mH_c, z1, z2]
    refine e_step (pc' := 32) hK rfl rfl rfl ?_
    refine e_iald (pc' := 33) hK rfl (by simp (disch := omega) only [mH_t64, mH_r1, mH_r3, mH_r4, mH_r5, mH_r6, mH_r8, mH_r9, mH_r10, mH_r11, mH_r12, mH_r14, mH_i0, mH_i2, mH_i7, mH_i13, mH_i15, mH_t71, mH_t, mH_lr, mH_l65, mH_l69, mH_l70, mH_l71, mH_l72, mH_l73, mH_l74, mH_l75, mH_c, z1, z2]) (by first | omega | exact bo_i _) (by (try simp (disch := omega) only [mH_t64, mH_r1, mH_r3, mH_r4, mH_r5, mH_r6, mH_r8, mH_r9, mH_r10, mH_r11, mH_r12, mH_r14, mH_i0, mH_i2, mH_i7, mH_i13, mH_i15, mH_t71, mH_t, mH_lr, mH_l65, mH_l69, mH_l70, mH_l71, mH_l72, mH_l73, mH_l74, mH_l75, mH_c, z1, z2]); first | omega | exact bo_i _) rfl ?_
    try simp (disch := omega) only [mH_t64, mH_r1, mH_r3, mH_r4, mH_r5, mH_r6, mH_r8, mH_r9, mH_r10, mH_r11, mH_r12, mH_r14, mH_i0, mH_i2, mH_i7, mH_i13, mH_i15, mH_t71, mH_t, mH_lr, mH_l65, mH_l69, mH_l70, mH_l71, mH_l72, mH_l73, mH_l74, mH_l75, mH_c, z1, z2]
    refine e_icmp (t := 79) (pc' := 36) hK rfl (by first | omega | exact bo_i _) (by first | omega | exact bo_i _) (by decide) rfl (fun hb33 => ?_) (fun hb33 => ?_)
    · replace hb33 := cq_ge.1.mp hb33
      try simp only [bo_0, Bool.not_eq_false] at hb33
      exfalso; first | omega | exact absurd trivial (by assumption) | (first | omega | exact bo_i _)
    · replace hb33 := cq_ge.2.mp hb33
      try simp only [bo_0, Bool.not_eq_false] at hb33
      refine e_step (pc' := 38) hK rfl rfl rfl ?_
      refine e_if (t := 79) (pc' := 41) hK rfl (by first | omega | exact bo_i _) (by decide) rfl (fun hb38 => ?_) (fun hb38 => ?_)
      · replace hb38 := cq_eq.1.mp hb38
        try simp only [bo_0, Bool.not_eq_false] at hb38
        refine e_step (pc' := 81) hK rfl rfl rfl ?_
        refine e_ret hK rfl rfl (by first | rfl | (simp only [mv_ret]; rw [if_pos]; exact Or.inr ⟨rfl, by omega⟩) | (simp only [mv_ret]; rw [if_pos]; exact Or.inr ⟨rfl, by unfold mv_bo; split <;> first | exact Or.inl rfl | exact Or.inr rfl⟩)) ?_
        have hbf : b = false := hb38
        rw [hbf] at hb
        have e : (decide (zx = zy) && px_e f g sx sy zx.toNat) = false := by { cases hd : decide (zx = zy) with | false => rfl | true => { rw [hd] at hb; cases he : px_e f g sx sy zx.toNat with | false => rfl | true => { rw [px_e_le (show k ≤ zx.toNat by omega) he] at hb; cases hb } } }
        rw [hbf, e]
        exact ⟨rfl, rfl, rfl⟩
      · replace hb38 := cq_eq.2.mp hb38
        try simp only [bo_0, Bool.not_eq_false] at hb38
        have hbt : b = true := hb38
        have hzz : zx = zy := by { rw [hbt] at hb; have := (Bool.and_eq_true _ _ ▸ hb.symm); exact of_decide_eq_true this.1 }
        have eg1 := (gx k (by omega) (by omega)).1
        have eg2 := (gy k (by omega) (by omega)).1
        have ig1 := (gx k (by omega) (by omega)).2
        have ig2 := (gy k (by omega) (by omega)).2
        refine e_step (pc' := 42) hK rfl rfl rfl ?_
        refine e_step (pc' := 43) hK rfl rfl rfl ?_
        refine e_getR (ci := 4) (k := 10) (pc' := 46) hK rfl (by simp (disch := omega) only [mH_t64, mH_r1, mH_r3, mH_r4, mH_r5, mH_r6, mH_r8, mH_r9, mH_r10, mH_r11, mH_r12, mH_r14, mH_i0, mH_i2, mH_i7, mH_i13, mH_i15, mH_t71, mH_t, mH_lr, mH_l65, mH_l69, mH_l70, mH_l71, mH_l72, mH_l73, mH_l74, mH_l75, mH_c, z1, z2, eg1, eg2]) rfl rfl (by decide) (by decide) (by (try simp (disch := omega) only [mH_t64, mH_r1, mH_r3, mH_r4, mH_r5, mH_r6, mH_r8, mH_r9, mH_r10, mH_r11, mH_r12, mH_r14, mH_i0, mH_i2, mH_i7, mH_i13, mH_i15, mH_t71, mH_t, mH_lr, mH_l65, mH_l69, mH_l70, mH_l71, mH_l72, mH_l73, mH_l74, mH_l75, mH_c, z1, z2, eg1, eg2]); first | omega | exact bo_i _) rfl ?_
        try simp (disch := omega) only [mH_t64, mH_r1, mH_r3, mH_r4, mH_r5, mH_r6, mH_r8, mH_r9, mH_r10, mH_r11, mH_r12, mH_r14, mH_i0, mH_i2, mH_i7, mH_i13, mH_i15, mH_t71, mH_t, mH_lr, mH_l65, mH_l69, mH_l70, mH_l71, mH_l72, mH_l73, mH_l74, mH_l75, mH_c, z1, z2, eg1, eg2]
        refine e_step (pc' := 47) hK rfl rfl rfl ?_
        refine e_iald (pc' := 48) hK rfl (by simp (disch := omega) only [mH_t64, mH_r1, mH_r3, mH_r4, mH_r5, mH_r6, mH_r8, mH_r9, mH_r10, mH_r11, mH_r12, mH_r14, mH_i0, mH_i2, mH_i7, mH_i13, mH_i15, mH_t71, mH_t, mH_lr, mH_l65, mH_l69, mH_l70, mH_l71, mH_l72, mH_l73, mH_l74, mH_l75, mH_c, z1, z2, eg1, eg2]) (by first | omega | exact bo_i _) (by (try simp (disch := omega) only [mH_t64, mH_r1, mH_r3, mH_r4, mH_r5, mH_r6, mH_r8, mH_r9, mH_r10, mH_r11, mH_r12, mH_r14, mH_i0, mH_i2, mH_i7, mH_i13, mH_i15, mH_t71, mH_t, mH_lr, mH_l65, mH_l69, mH_l70, mH_l71, mH_l72, mH_l73, mH_l74, mH_l75, mH_c, z1, z2, eg1, eg2]); first | omega | exact bo_i _) rfl ?_
        try simp (disch := omega) only [mH_t64, mH_r1, mH_r3, mH_r4, mH_r5, mH_r6, mH_r8, mH_r9, mH_r10, mH_r11, mH_r12, mH_r14, mH_i0, mH_i2, mH_i7, mH_i13, mH_i15, mH_t71, mH_t, mH_lr, mH_l65, mH_l69, mH_l70, mH_l71, mH_l72, mH_l73, mH_l74, mH_l75, mH_c, z1, z2, eg1, eg2]
        refine e_step (pc' := 50) hK rfl rfl rfl ?_
        refine e_step (pc' := 51) hK rfl rfl rfl ?_
        refine e_iald (pc' := 52) hK rfl (by simp (disch := omega) only [mH_t64, mH_r1, mH_r3, mH_r4, mH_r5, mH_r6, mH_r8, mH_r9, mH_r10, mH_r11, mH_r12, mH_r14, mH_i0, mH_i2, mH_i7, mH_i13, mH_i15, mH_t71, mH_t, mH_lr, mH_l65, mH_l69, mH_l70, mH_l71, mH_l72, mH_l73, mH_l74, mH_l75, mH_c, z1, z2, eg1, eg2]) (by first | omega | exact bo_i _) (by (try simp (disch := omega) only [mH_t64, mH_r1, mH_r3, mH_r4, mH_r5, mH_r6, mH_r8, mH_r9, mH_r10, mH_r11, mH_r12, mH_r14, mH_i0, mH_i2, mH_i7, mH_i13, mH_i15, mH_t71, mH_t, mH_lr, mH_l65, mH_l69, mH_l70, mH_l71, mH_l72, mH_l73, mH_l74, mH_l75, mH_c, z1, z2, eg1, eg2]); first | omega | exact bo_i _) rfl ?_
        try simp (disch := omega) only [mH_t64, mH_r1, mH_r3, mH_r4, mH_r5, mH_r6, mH_r8, mH_r9, mH_r10, mH_r11, mH_r12, mH_r14, mH_i0, mH_i2, mH_i7, mH_i13, mH_i15, mH_t71, mH_t, mH_lr, mH_l65, mH_l69, mH_l70, mH_l71, mH_l72, mH_l73, mH_l74, mH_l75, mH_c, z1, z2, eg1, eg2]
        refine e_step (pc' := 53) hK rfl rfl rfl ?_
        refine e_step (pc' := 54) hK rfl rfl rfl ?_
        refine e_getR (ci := 4) (k := 10) (pc' := 57) hK rfl (by simp (disch := omega) only [mH_t64, mH_r1, mH_r3, mH_r4, mH_r5, mH_r6, mH_r8, mH_r9, mH_r10, mH_r11, mH_r12, mH_r14, mH_i0, mH_i2, mH_i7, mH_i13, mH_i15, mH_t71, mH_t, mH_lr, mH_l65, mH_l69, mH_l70, mH_l71, mH_l72, mH_l73, mH_l74, mH_l75, mH_c, z1, z2, eg1, eg2]) rfl rfl (by decide) (by decide) (by (try simp (disch := omega) only [mH_t64, mH_r1, mH_r3, mH_r4, mH_r5, mH_r6, mH_r8, mH_r9, mH_r10, mH_r11, mH_r12, mH_r14, mH_i0, mH_i2, mH_i7, mH_i13, mH_i15, mH_t71, mH_t, mH_lr, mH_l65, mH_l69, mH_l70, mH_l71, mH_l72, mH_l73, mH_l74, mH_l75, mH_c, z1, z2, eg1, eg2]); first | omega | exact bo_i _) rfl ?_
        try simp (disch := omega) only [mH_t64, mH_r1, mH_r3, mH_r4, mH_r5, mH_r6, mH_r8, mH_r9, mH_r10, mH_r11, mH_r12, mH_r14, mH_i0, mH_i2, mH_i7, mH_i13, mH_i15, mH_t71, mH_t, mH_lr, mH_l65, mH_l69, mH_l70, mH_l71, mH_l72, mH_l73, mH_l74, mH_l75, mH_c, z1, z2, eg1, eg2]
        refine e_step (pc' := 58) hK rfl rfl rfl ?_
        refine e_iald (pc' := 59) hK rfl (by simp (disch := omega) only [mH_t64, mH_r1, mH_r3, mH_r4, mH_r5, mH_r6, mH_r8, mH_r9, mH_r10, mH_r11, mH_r12, mH_r14, mH_i0, mH_i2, mH_i7, mH_i13, mH_i15, mH_t71, mH_t, mH_lr, mH_l65, mH_l69, mH_l70, mH_l71, mH_l72, mH_l73, mH_l74, mH_l75, mH_c, z1, z2, eg1, eg2]) (by first | omega | exact bo_i _) (by (try simp (disch := omega) only [mH_t64, mH_r1, mH_r3, mH_r4, mH_r5, mH_r6, mH_r8, mH_r9, mH_r10, mH_r11, mH_r12, mH_r14, mH_i0, mH_i2, mH_i7, mH_i13, mH_i15, mH_t71, mH_t, mH_lr, mH_l65, mH_l69, mH_l70, mH_l71, mH_l72, mH_l73, mH_l74, mH_l75, mH_c, z1, z2, eg1, eg2]); first | omega | exact bo_i _) rfl ?_
        try simp (disch := omega) only [mH_t64, mH_r1, mH_r3, mH_r4, mH_r5, mH_r6, mH_r8, mH_r9, mH_r10, mH_r11, mH_r12, mH_r14, mH_i0, mH_i2, mH_i7, mH_i13, mH_i15, mH_t71, mH_t, mH_lr, mH_l65, mH_l69, mH_l70, mH_l71, mH_l72, mH_l73, mH_l74, mH_l75, mH_c, z1, z2, eg1, eg2]
        refine e_step (pc' := 61) hK rfl rfl rfl ?_
        refine e_step (pc' := 62) hK rfl rfl rfl ?_
        refine e_iald (pc' := 63) hK rfl (by simp (disch := omega) only [mH_t64, mH_r1, mH_r3, mH_r4, mH_r5, mH_r6, mH_r8, mH_r9, mH_r10, mH_r11, mH_r12, mH_r14, mH_i0, mH_i2, mH_i7, mH_i13, mH_i15, mH_t71, mH_t, mH_lr, mH_l65, mH_l69, mH_l70, mH_l71, mH_l72, mH_l73, mH_l74, mH_l75, mH_c, z1, z2, eg1, eg2]) (by first | omega | exact bo_i _) (by (try simp (disch := omega) only [mH_t64, mH_r1, mH_r3, mH_r4, mH_r5, mH_r6, mH_r8, mH_r9, mH_r10, mH_r11, mH_r12, mH_r14, mH_i0, mH_i2, mH_i7, mH_i13, mH_i15, mH_t71, mH_t, mH_lr, mH_l65, mH_l69, mH_l70, mH_l71, mH_l72, mH_l73, mH_l74, mH_l75, mH_c, z1, z2, eg1, eg2]); first | omega | exact bo_i _) rfl ?_
        try simp (disch := omega) only [mH_t64, mH_r1, mH_r3, mH_r4, mH_r5, mH_r6, mH_r8, mH_r9, mH_r10, mH_r11, mH_r12, mH_r14, mH_i0, mH_i2, mH_i7, mH_i13, mH_i15, mH_t71, mH_t, mH_lr, mH_l65, mH_l69, mH_l70, mH_l71, mH_l72, mH_l73, mH_l74, mH_l75, mH_c, z1, z2, eg1, eg2]
        refine e_icmp (t := 70) (pc' := 66) hK rfl (by first | omega | exact bo_i _) (by first | omega | exact bo_i _) (by decide) rfl (fun hb63 => ?_) (fun hb63 => ?_)
        · replace hb63 := cq_ne.1.mp hb63
          try simp only [bo_0, Bool.not_eq_false] at hb63
          refine e_step (pc' := 71) hK rfl rfl rfl ?_
          refine e_step (pc' := 73) hK rfl rfl rfl ?_
          try simp only [List.set_cons_zero, List.set_cons_succ]
          refine e_step (pc' := 76) hK rfl rfl rfl ?_
          try simp only [List.set_cons_zero, List.set_cons_succ]
          refine e_goto (t := 25) hK rfl (by decide) ?_
          have e : (decide (zx = zy) && px_e f g sx sy (k + 1)) = false := by { show (decide (zx = zy) && (px_e f g sx sy k && decide (f (sx + k) = g (sy + k)))) = _; rw [← Bool.and_assoc, ← hb, hbt]; exact decide_eq_false (by omega) }
          exact ih (k + 1) false ⟨by omega, e.symm⟩
        · replace hb63 := cq_ne.2.mp hb63
          try simp only [bo_0, Bool.not_eq_false] at hb63
          refine e_step (pc' := 67) hK rfl rfl rfl ?_
          refine e_goto (t := 71) hK rfl (by decide) ?_
          refine e_step (pc' := 73) hK rfl rfl rfl ?_
          try simp only [List.set_cons_zero, List.set_cons_succ]
          refine e_step (pc' := 76) hK rfl rfl rfl ?_
          try simp only [List.set_cons_zero, List.set_cons_succ]
          refine e_goto (t := 25) hK rfl (by decide) ?_
          have e : (decide (zx = zy) && px_e f g sx sy (k + 1)) = true := by { show (decide (zx = zy) && (px_e f g sx sy k && decide (f (sx + k) = g (sy + k)))) = _; rw [← Bool.and_assoc, ← hb, hbt]; exact decide_eq_true (by omega) }
          exact ih (k + 1) true ⟨by omega, e.symm⟩
set_option maxRecDepth 10000 in
theorem m_areSame (a : Int) (ha : 266 ≤ a ∧ a ≤ 268) (U W : Int) (hU : 0 ≤ U ∧ U < 24) (hW : 0 ≤ W ∧ W < 24) (zx zy sx sy : Int) (f g : Int → Int) (z1 : v 273 U = zx) (z2 : v 273 W = zy) (hz : 0 ≤ zx ∧ zx ≤ 40) (hz2 : 0 ≤ zy ∧ zy ≤ 40) (bU : 0 ≤ v 272 U ∧ v 272 U ≤ 1100) (bW : 0 ≤ v 272 W ∧ v 272 W ≤ 1100) (gx : ∀ k : Int, 0 ≤ k → k < zx → v a (v 272 U + k) = f (sx + k) ∧ mv_i (f (sx + k))) (gy : ∀ k : Int, 0 ≤ k → k < zy → v a (v 272 W + k) = g (sy + k) ∧ mv_i (g (sy + k))) : mv_Cl sc q_Mod_areSame [(2, 264), (2, a), (0, U), (0, W)] c (mH h v) (mv_Rd (0, mv_bo (decide (zx = zy) && px_e f g sx sy zx.toNat)) c (mH h v)) := by
  show mv_Ev sc 126 0 [(2, 264), (2, a), (0, U), (0, W), (5, 0), (5, 0)] [] c (mH h v) _
  have hK : (mv_m 126).1 = kc_Mod_areSame := rfl
  refine e_step (pc' := 1) hK rfl rfl rfl ?_
  refine e_getR (ci := 4) (k := 11) (pc' := 4) hK rfl (by simp (disch := omega) only [mH_t64, mH_r1, mH_r3, mH_r4, mH_r5, mH_r6, mH_r8, mH_r9, mH_r10, mH_r11, mH_r12, mH_r14, mH_i0, mH_i2, mH_i7, mH_i13, mH_i15, mH_t71, mH_t, mH_lr, mH_l65, mH_l69, mH_l70, mH_l71, mH_l72, mH_l73, mH_l74, mH_l75, mH_c, z1, z2]) rfl rfl (by decide) (by decide) (by (try simp (disch := omega) only [mH_t64, mH_r1, mH_r3, mH_r4, mH_r5, mH_r6, mH_r8, mH_r9, mH_r10, mH_r11, mH_r12, mH_r14, mH_i0, mH_i2, mH_i7, mH_i13, mH_i15, mH_t71, mH_t, mH_lr, mH_l65, mH_l69, mH_l70, mH_l71, mH_l72, mH_l73, mH_l74, mH_l75, mH_c, z1, z2]); omega) rfl ?_
  try simp (disch := omega) only [mH_t64, mH_r1, mH_r3, mH_r4, mH_r5, mH_r6, mH_r8, mH_r9, mH_r10, mH_r11, mH_r12, mH_r14, mH_i0, mH_i2, mH_i7, mH_i13, mH_i15, mH_t71, mH_t, mH_lr, mH_l65, mH_l69, mH_l70, mH_l71, mH_l72, mH_l73, mH_l74, mH_l75, mH_c, z1, z2]
  refine e_step (pc' := 5) hK rfl rfl rfl ?_
  refine e_iald (pc' := 6) hK rfl (by simp (disch := omega) only [mH_t64, mH_r1, mH_r3, mH_r4, mH_r5, mH_r6, mH_r8, mH_r9, mH_r10, mH_r11, mH_r12, mH_r14, mH_i0, mH_i2, mH_i7, mH_i13, mH_i15, mH_t71, mH_t, mH_lr, mH_l65, mH_l69, mH_l70, mH_l71, mH_l72, mH_l73, mH_l74, mH_l75, mH_c, z1, z2]) (by omega) (by (try simp (disch := omega) only [mH_t64, mH_r1, mH_r3, mH_r4, mH_r5, mH_r6, mH_r8, mH_r9, mH_r10, mH_r11, mH_r12, mH_r14, mH_i0, mH_i2, mH_i7, mH_i13, mH_i15, mH_t71, mH_t, mH_lr, mH_l65, mH_l69, mH_l70, mH_l71, mH_l72, mH_l73, mH_l74, mH_l75, mH_c, z1, z2]); omega) rfl ?_
  try simp (disch := omega) only [mH_t64, mH_r1, mH_r3, mH_r4, mH_r5, mH_r6, mH_r8, mH_r9, mH_r10, mH_r11, mH_r12, mH_r14, mH_i0, mH_i2, mH_i7, mH_i13, mH_i15, mH_t71, mH_t, mH_lr, mH_l65, mH_l69, mH_l70, mH_l71, mH_l72, mH_l73, mH_l74, mH_l75, mH_c, z1, z2]
  refine e_step (pc' := 7) hK rfl rfl rfl ?_
  refine e_getR (ci := 4) (k := 11) (pc' := 10) hK rfl (by simp (disch := omega) only [mH_t64, mH_r1, mH_r3, mH_r4, mH_r5, mH_r6, mH_r8, mH_r9, mH_r10, mH_r11, mH_r12, mH_r14, mH_i0, mH_i2, mH_i7, mH_i13, mH_i15, mH_t71, mH_t, mH_lr, mH_l65, mH_l69, mH_l70, mH_l71, mH_l72, mH_l73, mH_l74, mH_l75, mH_c, z1, z2]) rfl rfl (by decide) (by decide) (by (try simp (disch := omega) only [mH_t64, mH_r1, mH_r3, mH_r4, mH_r5, mH_r6, mH_r8, mH_r9, mH_r10, mH_r11, mH_r12, mH_r14, mH_i0, mH_i2, mH_i7, mH_i13, mH_i15, mH_t71, mH_t, mH_lr, mH_l65, mH_l69, mH_l70, mH_l71, mH_l72, mH_l73, mH_l74, mH_l75, mH_c, z1, z2]); omega) rfl ?_
  try simp (disch := omega) only [mH_t64, mH_r1, mH_r3, mH_r4, mH_r5, mH_r6, mH_r8, mH_r9, mH_r10, mH_r11, mH_r12, mH_r14, mH_i0, mH_i2, mH_i7, mH_i13, mH_i15, mH_t71, mH_t, mH_lr, mH_l65, mH_l69, mH_l70, mH_l71, mH_l72, mH_l73, mH_l74, mH_l75, mH_c, z1, z2]
  refine e_step (pc' := 11) hK rfl rfl rfl ?_
  refine e_iald (pc' := 12) hK rfl (by simp (disch := omega) only [mH_t64, mH_r1, mH_r3, mH_r4, mH_r5, mH_r6, mH_r8, mH_r9, mH_r10, mH_r11, mH_r12, mH_r14, mH_i0, mH_i2, mH_i7, mH_i13, mH_i15, mH_t71, mH_t, mH_lr, mH_l65, mH_l69, mH_l70, mH_l71, mH_l72, mH_l73, mH_l74, mH_l75, mH_c, z1, z2]) (by omega) (by (try simp (disch := omega) only [mH_t64, mH_r1, mH_r3, mH_r4, mH_r5, mH_r6, mH_r8, mH_r9, mH_r10, mH_r11, mH_r12, mH_r14, mH_i0, mH_i2, mH_i7, mH_i13, mH_i15, mH_t71, mH_t, mH_lr, mH_l65, mH_l69, mH_l70, mH_l71, mH_l72, mH_l73, mH_l74, mH_l75, mH_c, z1, z2]); omega) rfl ?_
  try simp (disch := omega) only [mH_t64, mH_r1, mH_r3, mH_r4, mH_r5, mH_r6, mH_r8, mH_r9, mH_r10, mH_r11, mH_r12, mH_r14, mH_i0, mH_i2, mH_i7, mH_i13, mH_i15, mH_t71, mH_t, mH_lr, mH_l65, mH_l69, mH_l70, mH_l71, mH_l72, mH_l73, mH_l74, mH_l75, mH_c, z1, z2]
  refine e_icmp (t := 19) (pc' := 15) hK rfl (by omega) (by omega) (by decide) rfl (fun hb12 => ?_) (fun hb12 => ?_)
  · replace hb12 := cq_ne.1.mp hb12
    refine e_step (pc' := 20) hK rfl rfl rfl ?_
    refine e_step (pc' := 22) hK rfl rfl rfl ?_
    try simp only [List.set_cons_zero, List.set_cons_succ]
    refine e_step (pc' := 23) hK rfl rfl rfl ?_
    refine e_step (pc' := 25) hK rfl rfl rfl ?_
    try simp only [List.set_cons_zero, List.set_cons_succ]
    exact m_same1 a ha U W hU hW zx zy sx sy f g z1 z2 hz hz2 bU bW gx gy zx.toNat 0 false ⟨by omega, by { rw [decide_eq_false (by omega)]; rfl }⟩
  · replace hb12 := cq_ne.2.mp hb12
    refine e_step (pc' := 16) hK rfl rfl rfl ?_
    refine e_goto (t := 20) hK rfl (by decide) ?_
    refine e_step (pc' := 22) hK rfl rfl rfl ?_
    try simp only [List.set_cons_zero, List.set_cons_succ]
    refine e_step (pc' := 23) hK rfl rfl rfl ?_
    refine e_step (pc' := 25) hK rfl rfl rfl ?_
    try simp only [List.set_cons_zero, List.set_cons_succ]
    exact m_same1 a ha U W hU hW zx zy sx sy f g z1 z2 hz hz2 bU bW gx gy zx.toNat 0 true ⟨by omega, by { rw [decide_eq_true (by omega)]; rfl }⟩
set_option maxRecDepth 10000 in
theorem m_val1 (a : Int) (ha : 266 ≤ a ∧ a ≤ 268) (U : Int) (hU : 0 ≤ U ∧ U < 24) (zx sx : Int) (f : Int → Int) (z1 : v 273 U = zx) (hz : 0 ≤ zx ∧ zx ≤ 40) (bU : 0 ≤ v 272 U ∧ v 272 U ≤ 1100) (gx : ∀ k : Int, 0 ≤ k → k < zx → v a (v 272 U + k) = f (sx + k) ∧ mv_i (f (sx + k))) : ∀ (m : Nat) (k : Nat), k + m = zx.toNat → mv_Ev sc 124 5 [(2, 264), (2, a), (0, U), (0, px_vv f sx k), (0, (k : Int))] [] c (mH h v) (mv_Rd (0, px_vv f sx zx.toNat) c (mH h v)) := by
  intro m
  induction m with
  | zero =>
    intro k hk
    have hK : (mv_m 124).1 = kc_Mod_valueAt := rfl
    refine e_step (pc' := 7) hK rfl rfl rfl ?_
    refine e_step (pc' := 8) hK rfl rfl rfl ?_
    refine e_getR (ci := 4) (k := 11) (pc' := 11) hK rfl (by simp (disch := omega) only [mH_t64, mH_r1, mH_r3, mH_r4, mH_r5, mH_r6, mH_r8, mH_r9, mH_r10, mH_r11, mH_r12, mH_r14, mH_i0, mH_i2, mH_i7, mH_i13, mH_i15, mH_t71, mH_t, mH_lr, mH_l65, mH_l69, mH_l70, mH_l71, mH_l72, mH_l73, mH_l74, mH_l75, mH_c, z1]) rfl rfl (by decide) (by decide) (by (try simp (disch := omega) only [mH_t64, mH_r1, mH_r3, mH_r4, mH_r5, mH_r6, mH_r8, mH_r9, mH_r10, mH_r11, mH_r12, mH_r14, mH_i0, mH_i2, mH_i7, mH_i13, mH_i15, mH_t71, mH_t, mH_lr, mH_l65, mH_l69, mH_l70, mH_l71, mH_l72, mH_l73, mH_l74, mH_l75, mH_c, z1]); omega) rfl ?_
    try simp (disch := omega) only [mH_t64, mH_r1, mH_r3, mH_r4, mH_r5, mH_r6, mH_r8, mH_r9, mH_r10, mH_r11, mH_r12, mH_r14, mH_i0, mH_i2, mH_i7, mH_i13, mH_i15, mH_t71, mH_t, mH_lr, mH_l65, mH_l69, mH_l70, mH_l71, mH_l72, mH_l73, mH_l74, mH_l75, mH_c, z1]
    refine e_step (pc' := 12) hK rfl rfl rfl ?_
    refine e_iald (pc' := 13) hK rfl (by simp (disch := omega) only [mH_t64, mH_r1, mH_r3, mH_r4, mH_r5, mH_r6, mH_r8, mH_r9, mH_r10, mH_r11, mH_r12, mH_r14, mH_i0, mH_i2, mH_i7, mH_i13, mH_i15, mH_t71, mH_t, mH_lr, mH_l65, mH_l69, mH_l70, mH_l71, mH_l72, mH_l73, mH_l74, mH_l75, mH_c, z1]) (by omega) (by (try simp (disch := omega) only [mH_t64, mH_r1, mH_r3, mH_r4, mH_r5, mH_r6, mH_r8, mH_r9, mH_r10, mH_r11, mH_r12, mH_r14, mH_i0, mH_i2, mH_i7, mH_i13, mH_i15, mH_t71, mH_t, mH_lr, mH_l65, mH_l69, mH_l70, mH_l71, mH_l72, mH_l73, mH_l74, mH_l75, mH_c, z1]); omega) rfl ?_
    try simp (disch := omega) only [mH_t64, mH_r1, mH_r3, mH_r4, mH_r5, mH_r6, mH_r8, mH_r9, mH_r10, mH_r11, mH_r12, mH_r14, mH_i0, mH_i2, mH_i7, mH_i13, mH_i15, mH_t71, mH_t, mH_lr, mH_l65, mH_l69, mH_l70, mH_l71, mH_l72, mH_l73, mH_l74, mH_l75, mH_c, z1]
    refine e_icmp (t := 42) (pc' := 16) hK rfl (by omega) (by omega) (by decide) rfl (fun hb13 => ?_) (fun hb13 => ?_)
    · replace hb13 := cq_ge.1.mp hb13
      refine e_step (pc' := 43) hK rfl rfl rfl ?_
      refine e_ret hK rfl rfl rfl ?_
      refine ⟨?_, rfl, rfl⟩
      congr 1
      rw [show zx.toNat = k from by omega]
    · replace hb13 := cq_ge.2.mp hb13
      exfalso; first | omega | exact absurd trivial (by assumption)
  | succ m ih =>
    intro k hk
    have hK : (mv_m 124).1 = kc_Mod_valueAt := rfl
    refine e_step (pc' := 7) hK rfl rfl rfl ?_
    refine e_step (pc' := 8) hK rfl rfl rfl ?_
    refine e_getR (ci := 4) (k := 11) (pc' := 11) hK rfl (by simp (disch := omega) only [mH_t64, mH_r1, mH_r3, mH_r4, mH_r5, mH_r6, mH_r8, mH_r9, mH_r10, mH_r11, mH_r12, mH_r14, mH_i0, mH_i2, mH_i7, mH_i13, mH_i15, mH_t71, mH_t, mH_lr, mH_l65, mH_l69, mH_l70, mH_l71, mH_l72, mH_l73, mH_l74, mH_l75, mH_c, z1]) rfl rfl (by decide) (by decide) (by (try simp (disch := omega) only [mH_t64, mH_r1, mH_r3, mH_r4, mH_r5, mH_r6, mH_r8, mH_r9, mH_r10, mH_r11, mH_r12, mH_r14, mH_i0, mH_i2, mH_i7, mH_i13, mH_i15, mH_t71, mH_t, mH_lr, mH_l65, mH_l69, mH_l70, mH_l71, mH_l72, mH_l73, mH_l74, mH_l75, mH_c, z1]); omega) rfl ?_
    try simp (disch := omega) only [mH_t64, mH_r1, mH_r3, mH_r4, mH_r5, mH_r6, mH_r8, mH_r9, mH_r10, mH_r11, mH_r12, mH_r14, mH_i0, mH_i2, mH_i7, mH_i13, mH_i15, mH_t71, mH_t, mH_lr, mH_l65, mH_l69, mH_l70, mH_l71, mH_l72, mH_l73, mH_l74, mH_l75, mH_c, z1]
    refine e_step (pc' := 12) hK rfl rfl rfl ?_
    refine e_iald (pc' := 13) hK rfl (by simp (disch := omega) only [mH_t64, mH_r1, mH_r3, mH_r4, mH_r5, mH_r6, mH_r8, mH_r9, mH_r10, mH_r11, mH_r12, mH_r14, mH_i0, mH_i2, mH_i7, mH_i13, mH_i15, mH_t71, mH_t, mH_lr, mH_l65, mH_l69, mH_l70, mH_l71, mH_l72, mH_l73, mH_l74, mH_l75, mH_c, z1]) (by omega) (by (try simp (disch := omega) only [mH_t64, mH_r1, mH_r3, mH_r4, mH_r5, mH_r6, mH_r8, mH_r9, mH_r10, mH_r11, mH_r12, mH_r14, mH_i0, mH_i2, mH_i7, mH_i13, mH_i15, mH_t71, mH_t, mH_lr, mH_l65, mH_l69, mH_l70, mH_l71, mH_l72, mH_l73, mH_l74, mH_l75, mH_c, z1]); omega) rfl ?_
    try simp (disch := omega) only [mH_t64, mH_r1, mH_r3, mH_r4, mH_r5, mH_r6, mH_r8, mH_r9, mH_r10, mH_r11, mH_r12, mH_r14, mH_i0, mH_i2, mH_i7, mH_i13, mH_i15, mH_t71, mH_t, mH_lr, mH_l65, mH_l69, mH_l70, mH_l71, mH_l72, mH_l73, mH_l74, mH_l75, mH_c, z1]
    refine e_icmp (t := 42) (pc' := 16) hK rfl (by omega) (by omega) (by decide) rfl (fun hb13 => ?_) (fun hb13 => ?_)
    · replace hb13 := cq_ge.1.mp hb13
      exfalso; first | omega | exact absurd trivial (by assumption)
    · replace hb13 := cq_ge.2.mp hb13
      have eg1 := (gx k (by omega) (by omega)).1
      refine e_step (pc' := 18) hK rfl rfl rfl ?_
      refine e_step (pc' := 19) hK rfl rfl rfl ?_
      refine e_step (pc' := 20) hK rfl rfl rfl ?_
      refine e_step (pc' := 21) hK rfl rfl rfl ?_
      refine e_step (pc' := 22) hK rfl rfl rfl ?_
      refine e_getR (ci := 4) (k := 10) (pc' := 25) hK rfl (by simp (disch := omega) only [mH_t64, mH_r1, mH_r3, mH_r4, mH_r5, mH_r6, mH_r8, mH_r9, mH_r10, mH_r11, mH_r12, mH_r14, mH_i0, mH_i2, mH_i7, mH_i13, mH_i15, mH_t71, mH_t, mH_lr, mH_l65, mH_l69, mH_l70, mH_l71, mH_l72, mH_l73, mH_l74, mH_l75, mH_c, z1, eg1]) rfl rfl (by decide) (by decide) (by (try simp (disch := omega) only [mH_t64, mH_r1, mH_r3, mH_r4, mH_r5, mH_r6, mH_r8, mH_r9, mH_r10, mH_r11, mH_r12, mH_r14, mH_i0, mH_i2, mH_i7, mH_i13, mH_i15, mH_t71, mH_t, mH_lr, mH_l65, mH_l69, mH_l70, mH_l71, mH_l72, mH_l73, mH_l74, mH_l75, mH_c, z1, eg1]); omega) rfl ?_
      try simp (disch := omega) only [mH_t64, mH_r1, mH_r3, mH_r4, mH_r5, mH_r6, mH_r8, mH_r9, mH_r10, mH_r11, mH_r12, mH_r14, mH_i0, mH_i2, mH_i7, mH_i13, mH_i15, mH_t71, mH_t, mH_lr, mH_l65, mH_l69, mH_l70, mH_l71, mH_l72, mH_l73, mH_l74, mH_l75, mH_c, z1, eg1]
      refine e_step (pc' := 26) hK rfl rfl rfl ?_
      refine e_iald (pc' := 27) hK rfl (by simp (disch := omega) only [mH_t64, mH_r1, mH_r3, mH_r4, mH_r5, mH_r6, mH_r8, mH_r9, mH_r10, mH_r11, mH_r12, mH_r14, mH_i0, mH_i2, mH_i7, mH_i13, mH_i15, mH_t71, mH_t, mH_lr, mH_l65, mH_l69, mH_l70, mH_l71, mH_l72, mH_l73, mH_l74, mH_l75, mH_c, z1, eg1]) (by omega) (by (try simp (disch := omega) only [mH_t64, mH_r1, mH_r3, mH_r4, mH_r5, mH_r6, mH_r8, mH_r9, mH_r10, mH_r11, mH_r12, mH_r14, mH_i0, mH_i2, mH_i7, mH_i13, mH_i15, mH_t71, mH_t, mH_lr, mH_l65, mH_l69, mH_l70, mH_l71, mH_l72, mH_l73, mH_l74, mH_l75, mH_c, z1, eg1]); omega) rfl ?_
      try simp (disch := omega) only [mH_t64, mH_r1, mH_r3, mH_r4, mH_r5, mH_r6, mH_r8, mH_r9, mH_r10, mH_r11, mH_r12, mH_r14, mH_i0, mH_i2, mH_i7, mH_i13, mH_i15, mH_t71, mH_t, mH_lr, mH_l65, mH_l69, mH_l70, mH_l71, mH_l72, mH_l73, mH_l74, mH_l75, mH_c, z1, eg1]
      refine e_step (pc' := 29) hK rfl rfl rfl ?_
      refine e_step (pc' := 30) hK rfl rfl rfl ?_
      refine e_iald (pc' := 31) hK rfl (by simp (disch := omega) only [mH_t64, mH_r1, mH_r3, mH_r4, mH_r5, mH_r6, mH_r8, mH_r9, mH_r10, mH_r11, mH_r12, mH_r14, mH_i0, mH_i2, mH_i7, mH_i13, mH_i15, mH_t71, mH_t, mH_lr, mH_l65, mH_l69, mH_l70, mH_l71, mH_l72, mH_l73, mH_l74, mH_l75, mH_c, z1, eg1]) (by omega) (by (try simp (disch := omega) only [mH_t64, mH_r1, mH_r3, mH_r4, mH_r5, mH_r6, mH_r8, mH_r9, mH_r10, mH_r11, mH_r12, mH_r14, mH_i0, mH_i2, mH_i7, mH_i13, mH_i15, mH_t71, mH_t, mH_lr, mH_l65, mH_l69, mH_l70, mH_l71, mH_l72, mH_l73, mH_l74, mH_l75, mH_c, z1, eg1]); omega) rfl ?_
      try simp (disch := omega) only [mH_t64, mH_r1, mH_r3, mH_r4, mH_r5, mH_r6, mH_r8, mH_r9, mH_r10, mH_r11, mH_r12, mH_r14, mH_i0, mH_i2, mH_i7, mH_i13, mH_i15, mH_t71, mH_t, mH_lr, mH_l65, mH_l69, mH_l70, mH_l71, mH_l72, mH_l73, mH_l74, mH_l75, mH_c, z1, eg1]
      refine e_step (pc' := 32) hK rfl rfl rfl ?_
      refine e_step (pc' := 34) hK rfl rfl rfl ?_
      refine e_step (pc' := 35) hK rfl rfl rfl ?_
      refine e_step (pc' := 36) hK rfl rfl rfl ?_
      try simp only [List.set_cons_zero, List.set_cons_succ]
      refine e_step (pc' := 39) hK rfl rfl rfl ?_
      try simp only [List.set_cons_zero, List.set_cons_succ]
      refine e_goto (t := 5) hK rfl (by decide) ?_
      exact ih (k + 1) (by omega)
set_option maxRecDepth 10000 in
theorem m_valueAt (a : Int) (ha : 266 ≤ a ∧ a ≤ 268) (U : Int) (hU : 0 ≤ U ∧ U < 24) (zx sx : Int) (f : Int → Int) (z1 : v 273 U = zx) (hz : 0 ≤ zx ∧ zx ≤ 40) (bU : 0 ≤ v 272 U ∧ v 272 U ≤ 1100) (gx : ∀ k : Int, 0 ≤ k → k < zx → v a (v 272 U + k) = f (sx + k) ∧ mv_i (f (sx + k))) : mv_Cl sc q_Mod_valueAt [(2, 264), (2, a), (0, U)] c (mH h v) (mv_Rd (0, px_vv f sx zx.toNat) c (mH h v)) := by
  show mv_Ev sc 124 0 [(2, 264), (2, a), (0, U), (5, 0), (5, 0)] [] c (mH h v) _
  have hK : (mv_m 124).1 = kc_Mod_valueAt := rfl
  refine e_step (pc' := 1) hK rfl rfl rfl ?_
  refine e_step (pc' := 2) hK rfl rfl rfl ?_
  try simp only [List.set_cons_zero, List.set_cons_succ]
  refine e_step (pc' := 3) hK rfl rfl rfl ?_
  refine e_step (pc' := 5) hK rfl rfl rfl ?_
  try simp only [List.set_cons_zero, List.set_cons_succ]
  exact m_val1 a ha U hU zx sx f z1 hz bU gx zx.toNat 0 (by omega)
/-- piece p of the line x (line i of the row R) lies at U -/
def Pc (v : mvt) (R : Int → Int) (U : Int) (i : Int) (x : xt) (p : Int) : Prop := (0 ≤ i ∧ i ≤ 24 ∧ 0 ≤ U ∧ U < 24 ∧ 0 ≤ p ∧ p < xn x ∧ xok x) ∧ Rl R i x ∧ v 272 U = 2 + 42 * i + 2 + xs x p ∧ v 273 U = xz x p ∧ v 274 U = xk x p
theorem Pc_ch {R : Int → Int} {U i : Int} {x : xt} {p : Int} (hp : Pc v R U i x p) (k : Int) (h0 : 0 ≤ k) (h1 : k < xz x p) : R (v 272 U + k) = x.2 (xs x p + k) ∧ 32 ≤ x.2 (xs x p + k) ∧ x.2 (xs x p + k) ≤ 122 := by
  obtain ⟨⟨i0, i1, -, -, p0, p1, hx⟩, hl, e1, -, -⟩ := hp
  have hb := xp_b hx p0 p1
  rw [e1, show 2 + 42 * i + 2 + xs x p + k = 2 + 42 * i + 2 + (xs x p + k) from by omega, hl.2 _ (by omega) (by omega)]
  exact ⟨rfl, px_cb hx (by omega) (by omega)⟩
theorem Pc_b {R : Int → Int} {U i : Int} {x : xt} {p : Int} (hp : Pc v R U i x p) : 0 ≤ v 272 U ∧ v 272 U ≤ 1100 ∧ 1 ≤ xz x p ∧ xz x p ≤ 40 ∧ 0 ≤ xk x p ∧ xk x p ≤ 3 := by
  obtain ⟨⟨i0, i1, -, -, p0, p1, hx⟩, hl, e1, -, -⟩ := hp
  have hb := xp_b hx p0 p1
  omega
theorem Pc_of {R : Int → Int} {o i : Int} {x : xt} {p U : Int} (hc : Ct v o (2 + 42 * i + 2) (px x.2 x.1)) (hl : Rl R i x) (hi : 0 ≤ i ∧ i ≤ 24) (hx : xok x) (ho : o = 0 ∨ o = 12) (h0 : 0 ≤ p) (h1 : p < xn x) (hU : U = o + p) : Pc v R U i x p := by
  have hb := xn_b hx
  have hq := Ct_x hc h0 h1
  rw [← hU] at hq
  exact ⟨⟨hi.1, hi.2, by omega, by omega, h0, h1, hx⟩, hl, hq⟩
theorem m_same (a : Int) (ha : 266 ≤ a ∧ a ≤ 268) {U W i j p q : Int} {x y : xt} (hp : Pc v (v a) U i x p) (hq : Pc v (v a) W j y q) : mv_Cl sc q_Mod_areSame [(2, 264), (2, a), (0, U), (0, W)] c (mH h v) (mv_Rd (0, mv_bo (xw x p y q)) c (mH h v)) := by
  have b1 := Pc_b hp
  have b2 := Pc_b hq
  have e := xw_p (x := x) (y := y) hp.1.2.2.2.2.1 hp.1.2.2.2.2.2.1 hq.1.2.2.2.2.1 hq.1.2.2.2.2.2.1
  rw [e]
  refine m_areSame a ha U W ⟨hp.1.2.2.1, hp.1.2.2.2.1⟩ ⟨hq.1.2.2.1, hq.1.2.2.2.1⟩ (xz x p) (xz y q) (xs x p) (xs y q) x.2 y.2 hp.2.2.2.1 hq.2.2.2.1 (by omega) (by omega) (by omega) (by omega) (fun k h0 h1 => ?_) (fun k h0 h1 => ?_)
  · have := Pc_ch hp k h0 h1; exact ⟨this.1, by omega⟩
  · have := Pc_ch hq k h0 h1; exact ⟨this.1, by omega⟩
theorem m_val (a : Int) (ha : 266 ≤ a ∧ a ≤ 268) {U i p : Int} {x : xt} (hp : Pc v (v a) U i x p) (h3 : xk x p = 3) : mv_Cl sc q_Mod_valueAt [(2, 264), (2, a), (0, U)] c (mH h v) (mv_Rd (0, xv x p) c (mH h v)) := by
  have b1 := Pc_b hp
  rw [xv_d hp.1.2.2.2.2.2.2 h3]
  refine m_valueAt a ha U ⟨hp.1.2.2.1, hp.1.2.2.2.1⟩ (xz x p) (xs x p) x.2 hp.2.2.2.1 (by omega) (by omega) (fun k h0 h1 => ?_)
  have := Pc_ch hp k h0 h1; exact ⟨this.1, by omega⟩
set_option maxRecDepth 10000 in
theorem m_before1 (a : Int) (ha : 266 ≤ a ∧ a ≤ 268) {A : lg} (hR : Rw (v a) A) (hI : gI A) (t : Int) (ht : mv_i t) (i : Int) (h0 : 0 ≤ i) (h1 : i ≤ gn A) : ∀ (m : Nat) , m ≤ i.toNat ∧ glo A t i = ll (fun k => decide (gP A k = t)) m → mv_Ev sc 122 4 [(2, a), (0, t), (0, i), (0, (m : Int) - 1)] [] c (mH h v) (mv_Rd (0, glo A t i) c (mH h v)) := by
  intro m
  induction m with
  | zero =>
    intro hk
    have b1 := hI.1
    have b2 := hI.2.1
    have r0 := hR.1
    have r1 := hR.2.1
    have gr := fun (k : Int) (h0 : 0 ≤ k) (h1 : k < gn A) => (hR.2.2.1 k h0 h1).2
    have hK : (mv_m 122).1 = kc_Mod_lineBefore := rfl
    refine e_step (pc' := 5) hK rfl rfl rfl ?_
    refine e_if (t := 26) (pc' := 8) hK rfl (by first | omega | (have q := gP_b hI (show (0 : Int) ≤ (m : Int) by omega) (by omega); omega)) (by decide) rfl (fun hb5 => ?_) (fun hb5 => ?_)
    · replace hb5 := cq_lt.1.mp hb5
      refine e_step (pc' := 27) hK rfl rfl rfl ?_
      refine e_if (t := 34) (pc' := 30) hK rfl (by first | omega | (have q := gP_b hI (show (0 : Int) ≤ (m : Int) by omega) (by omega); omega)) (by decide) rfl (fun hb27 => ?_) (fun hb27 => ?_)
      · replace hb27 := cq_lt.1.mp hb27
        refine e_step (pc' := 37) hK rfl rfl rfl ?_
        refine e_ret hK rfl rfl rfl ?_
        refine ⟨?_, rfl, rfl⟩
        congr 1
        rw [hk.2]
        first | rfl | omega
      · replace hb27 := cq_lt.2.mp hb27
        exfalso; first | omega | exact absurd trivial (by assumption) | (first | omega | (have q := gP_b hI (show (0 : Int) ≤ (m : Int) by omega) (by omega); omega))
    · replace hb5 := cq_lt.2.mp hb5
      exfalso; first | omega | exact absurd trivial (by assumption) | (first | omega | (have q := gP_b hI (show (0 : Int) ≤ (m : Int) by omega) (by omega); omega))
  | succ m ih =>
    intro hk
    have b1 := hI.1
    have b2 := hI.2.1
    have r0 := hR.1
    have r1 := hR.2.1
    have gr := fun (k : Int) (h0 : 0 ≤ k) (h1 : k < gn A) => (hR.2.2.1 k h0 h1).2
    have hK : (mv_m 122).1 = kc_Mod_lineBefore := rfl
    refine e_step (pc' := 5) hK rfl rfl rfl ?_
    refine e_if (t := 26) (pc' := 8) hK rfl (by first | omega | (have q := gP_b hI (show (0 : Int) ≤ (m : Int) by omega) (by omega); omega)) (by decide) rfl (fun hb5 => ?_) (fun hb5 => ?_)
    · replace hb5 := cq_lt.1.mp hb5
      exfalso; first | omega | exact absurd trivial (by assumption) | (first | omega | (have q := gP_b hI (show (0 : Int) ≤ (m : Int) by omega) (by omega); omega))
    · replace hb5 := cq_lt.2.mp hb5
      have em : ((m + 1 : Nat) : Int) - 1 = m := by omega
      rw [em]
      have q9 := gP_b hI (show (0 : Int) ≤ (m : Int) by omega) (by omega)
      refine e_step (pc' := 9) hK rfl rfl rfl ?_
      refine e_step (pc' := 10) hK rfl rfl rfl ?_
      refine e_cRS1 (z := 116) (pc' := 13) hK rfl rfl rfl (Nat.le_of_ble_eq_true rfl) (Nat.le_of_ble_eq_true rfl) (m_lineAt _) (by decide) rfl ?_
      try simp (disch := omega) only [mH_t64, mH_r1, mH_r3, mH_r4, mH_r5, mH_r6, mH_r8, mH_r9, mH_r10, mH_r11, mH_r12, mH_r14, mH_i0, mH_i2, mH_i7, mH_i13, mH_i15, mH_t71, mH_t, mH_lr, mH_l65, mH_l69, mH_l70, mH_l71, mH_l72, mH_l73, mH_l74, mH_l75, mH_c, gr]
      refine e_step (pc' := 14) hK rfl rfl rfl ?_
      refine e_step (pc' := 15) hK rfl rfl rfl ?_
      refine e_iald (pc' := 16) hK rfl (by simp (disch := omega) only [mH_t64, mH_r1, mH_r3, mH_r4, mH_r5, mH_r6, mH_r8, mH_r9, mH_r10, mH_r11, mH_r12, mH_r14, mH_i0, mH_i2, mH_i7, mH_i13, mH_i15, mH_t71, mH_t, mH_lr, mH_l65, mH_l69, mH_l70, mH_l71, mH_l72, mH_l73, mH_l74, mH_l75, mH_c, gr]) (by first | omega | (have q := gP_b hI (show (0 : Int) ≤ (m : Int) by omega) (by omega); omega)) (by (try simp (disch := omega) only [mH_t64, mH_r1, mH_r3, mH_r4, mH_r5, mH_r6, mH_r8, mH_r9, mH_r10, mH_r11, mH_r12, mH_r14, mH_i0, mH_i2, mH_i7, mH_i13, mH_i15, mH_t71, mH_t, mH_lr, mH_l65, mH_l69, mH_l70, mH_l71, mH_l72, mH_l73, mH_l74, mH_l75, mH_c, gr]); first | omega | (have q := gP_b hI (show (0 : Int) ≤ (m : Int) by omega) (by omega); omega)) rfl ?_
      try simp (disch := omega) only [mH_t64, mH_r1, mH_r3, mH_r4, mH_r5, mH_r6, mH_r8, mH_r9, mH_r10, mH_r11, mH_r12, mH_r14, mH_i0, mH_i2, mH_i7, mH_i13, mH_i15, mH_t71, mH_t, mH_lr, mH_l65, mH_l69, mH_l70, mH_l71, mH_l72, mH_l73, mH_l74, mH_l75, mH_c, gr]
      refine e_step (pc' := 17) hK rfl rfl rfl ?_
      refine e_icmp (t := 26) (pc' := 20) hK rfl (by first | omega | (have q := gP_b hI (show (0 : Int) ≤ (m : Int) by omega) (by omega); omega)) (by first | omega | (have q := gP_b hI (show (0 : Int) ≤ (m : Int) by omega) (by omega); omega)) (by decide) rfl (fun hb17 => ?_) (fun hb17 => ?_)
      · replace hb17 := cq_eq.1.mp hb17
        refine e_step (pc' := 27) hK rfl rfl rfl ?_
        refine e_if (t := 34) (pc' := 30) hK rfl (by first | omega | (have q := gP_b hI (show (0 : Int) ≤ (m : Int) by omega) (by omega); omega)) (by decide) rfl (fun hb27 => ?_) (fun hb27 => ?_)
        · replace hb27 := cq_lt.1.mp hb27
          exfalso; first | omega | exact absurd trivial (by assumption) | (first | omega | (have q := gP_b hI (show (0 : Int) ≤ (m : Int) by omega) (by omega); omega))
        · replace hb27 := cq_lt.2.mp hb27
          refine e_step (pc' := 31) hK rfl rfl rfl ?_
          refine e_goto (t := 37) hK rfl (by decide) ?_
          refine e_ret hK rfl rfl rfl ?_
          refine ⟨?_, rfl, rfl⟩
          congr 1
          rw [hk.2]
          exact (ll_h (q := fun k => decide (gP A k = t)) (decide_eq_true hb17)).symm
      · replace hb17 := cq_eq.2.mp hb17
        refine e_step (pc' := 23) hK rfl rfl rfl ?_
        try simp only [List.set_cons_zero, List.set_cons_succ]
        refine e_goto (t := 4) hK rfl (by decide) ?_
        exact ih ⟨by omega, hk.2.trans (ll_s (q := fun k => decide (gP A k = t)) (decide_eq_false hb17))⟩
set_option maxRecDepth 10000 in
theorem m_before (a : Int) (ha : 266 ≤ a ∧ a ≤ 268) {A : lg} (hR : Rw (v a) A) (hI : gI A) (t : Int) (ht : mv_i t) (i : Int) (h0 : 0 ≤ i) (h1 : i ≤ gn A) : mv_Cl sc q_Mod_lineBefore [(2, a), (0, t), (0, i)] c (mH h v) (mv_Rd (0, glo A t i) c (mH h v)) := by
  show mv_Ev sc 122 0 [(2, a), (0, t), (0, i), (5, 0)] [] c (mH h v) _
  have hK : (mv_m 122).1 = kc_Mod_lineBefore := rfl
  refine e_step (pc' := 1) hK rfl rfl rfl ?_
  refine e_step (pc' := 2) hK rfl rfl rfl ?_
  refine e_step (pc' := 3) hK rfl rfl rfl ?_
  refine e_step (pc' := 4) hK rfl rfl rfl ?_
  try simp only [List.set_cons_zero, List.set_cons_succ]
  have e : i - 1 = (i.toNat : Int) - 1 := by omega
  rw [e]
  exact m_before1 a ha hR hI t ht i h0 h1 i.toNat ⟨Nat.le_refl _, glo_ll h0 h1⟩
set_option maxRecDepth 10000 in
theorem m_last (a : Int) (ha : 266 ≤ a ∧ a ≤ 268) {A : lg} (hR : Rw (v a) A) (hI : gI A) (t : Int) (ht : mv_i t) : mv_Cl sc q_Mod_lastLine [(2, a), (0, t)] c (mH h v) (mv_Rd (0, gla A t) c (mH h v)) := by
  have b1 := hI.1
  have b2 := hI.2.1
  have r0 := hR.1
  have r1 := hR.2.1
  have gr := fun (k : Int) (h0 : 0 ≤ k) (h1 : k < gn A) => (hR.2.2.1 k h0 h1).2
  show mv_Ev sc 144 0 [(2, a), (0, t)] [] c (mH h v) _
  have hK : (mv_m 144).1 = kc_Mod_lastLine := rfl
  refine e_step (pc' := 1) hK rfl rfl rfl ?_
  refine e_step (pc' := 2) hK rfl rfl rfl ?_
  refine e_step (pc' := 3) hK rfl rfl rfl ?_
  refine e_step (pc' := 4) hK rfl rfl rfl ?_
  refine e_iald (pc' := 5) hK rfl (by simp (disch := omega) only [mH_t64, mH_r1, mH_r3, mH_r4, mH_r5, mH_r6, mH_r8, mH_r9, mH_r10, mH_r11, mH_r12, mH_r14, mH_i0, mH_i2, mH_i7, mH_i13, mH_i15, mH_t71, mH_t, mH_lr, mH_l65, mH_l69, mH_l70, mH_l71, mH_l72, mH_l73, mH_l74, mH_l75, mH_c, r0]) (by omega) (by (try simp (disch := omega) only [mH_t64, mH_r1, mH_r3, mH_r4, mH_r5, mH_r6, mH_r8, mH_r9, mH_r10, mH_r11, mH_r12, mH_r14, mH_i0, mH_i2, mH_i7, mH_i13, mH_i15, mH_t71, mH_t, mH_lr, mH_l65, mH_l69, mH_l70, mH_l71, mH_l72, mH_l73, mH_l74, mH_l75, mH_c, r0]); omega) rfl ?_
  try simp (disch := omega) only [mH_t64, mH_r1, mH_r3, mH_r4, mH_r5, mH_r6, mH_r8, mH_r9, mH_r10, mH_r11, mH_r12, mH_r14, mH_i0, mH_i2, mH_i7, mH_i13, mH_i15, mH_t71, mH_t, mH_lr, mH_l65, mH_l69, mH_l70, mH_l71, mH_l72, mH_l73, mH_l74, mH_l75, mH_c, r0]
  refine e_cRS3 (z := 122) (pc' := 8) hK rfl rfl rfl (Nat.le_of_ble_eq_true rfl) (Nat.le_of_ble_eq_true rfl) (m_before a ha hR hI t ht (gn A) (by omega) (by omega)) (by decide) rfl ?_
  try simp (disch := omega) only [mH_t64, mH_r1, mH_r3, mH_r4, mH_r5, mH_r6, mH_r8, mH_r9, mH_r10, mH_r11, mH_r12, mH_r14, mH_i0, mH_i2, mH_i7, mH_i13, mH_i15, mH_t71, mH_t, mH_lr, mH_l65, mH_l69, mH_l70, mH_l71, mH_l72, mH_l73, mH_l74, mH_l75, mH_c, r0]
  refine e_ret hK rfl rfl rfl ?_
  exact ⟨rfl, rfl, rfl⟩
set_option maxRecDepth 10000 in
theorem m_first1 (a : Int) (ha : 266 ≤ a ∧ a ≤ 268) {A : lg} (hR : Rw (v a) A) (hI : gI A) (t : Int) (ht : mv_i t) (F : Nat) (hF : (F : Int) < gn A) (h1 : gP A F = t) (h2 : ∀ j : Nat, (j : Int) < F → gP A j ≠ t) : ∀ (m : Nat) (i : Nat), i + m = F → mv_Ev sc 129 2 [(2, a), (0, t), (0, (i : Int))] [] c (mH h v) (mv_Rd (0, (F : Int)) c (mH h v)) := by
  intro m
  induction m with
  | zero =>
    intro i hk
    have b1 := hI.1
    have b2 := hI.2.1
    have r0 := hR.1
    have r1 := hR.2.1
    have gr := fun (k : Int) (h0 : 0 ≤ k) (h1 : k < gn A) => (hR.2.2.1 k h0 h1).2
    have hK : (mv_m 129).1 = kc_Mod_firstLine := rfl
    have q9 := gP_b hI (show (0 : Int) ≤ (i : Int) by omega) (by omega)
    have hz : (i : Int) = F → gP A i = t := fun e => by { rw [e]; exact h1 }
    have hy := h2 i
    refine e_step (pc' := 3) hK rfl rfl rfl ?_
    refine e_step (pc' := 4) hK rfl rfl rfl ?_
    refine e_cRS1 (z := 116) (pc' := 7) hK rfl rfl rfl (Nat.le_of_ble_eq_true rfl) (Nat.le_of_ble_eq_true rfl) (m_lineAt _) (by decide) rfl ?_
    try simp (disch := omega) only [mH_t64, mH_r1, mH_r3, mH_r4, mH_r5, mH_r6, mH_r8, mH_r9, mH_r10, mH_r11, mH_r12, mH_r14, mH_i0, mH_i2, mH_i7, mH_i13, mH_i15, mH_t71, mH_t, mH_lr, mH_l65, mH_l69, mH_l70, mH_l71, mH_l72, mH_l73, mH_l74, mH_l75, mH_c, gr]
    refine e_step (pc' := 8) hK rfl rfl rfl ?_
    refine e_step (pc' := 9) hK rfl rfl rfl ?_
    refine e_iald (pc' := 10) hK rfl (by simp (disch := omega) only [mH_t64, mH_r1, mH_r3, mH_r4, mH_r5, mH_r6, mH_r8, mH_r9, mH_r10, mH_r11, mH_r12, mH_r14, mH_i0, mH_i2, mH_i7, mH_i13, mH_i15, mH_t71, mH_t, mH_lr, mH_l65, mH_l69, mH_l70, mH_l71, mH_l72, mH_l73, mH_l74, mH_l75, mH_c, gr]) (by first | omega | (have q := gP_b hI (show (0 : Int) ≤ (i : Int) by omega) (by omega); omega)) (by (try simp (disch := omega) only [mH_t64, mH_r1, mH_r3, mH_r4, mH_r5, mH_r6, mH_r8, mH_r9, mH_r10, mH_r11, mH_r12, mH_r14, mH_i0, mH_i2, mH_i7, mH_i13, mH_i15, mH_t71, mH_t, mH_lr, mH_l65, mH_l69, mH_l70, mH_l71, mH_l72, mH_l73, mH_l74, mH_l75, mH_c, gr]); first | omega | (have q := gP_b hI (show (0 : Int) ≤ (i : Int) by omega) (by omega); omega)) rfl ?_
    try simp (disch := omega) only [mH_t64, mH_r1, mH_r3, mH_r4, mH_r5, mH_r6, mH_r8, mH_r9, mH_r10, mH_r11, mH_r12, mH_r14, mH_i0, mH_i2, mH_i7, mH_i13, mH_i15, mH_t71, mH_t, mH_lr, mH_l65, mH_l69, mH_l70, mH_l71, mH_l72, mH_l73, mH_l74, mH_l75, mH_c, gr]
    refine e_step (pc' := 11) hK rfl rfl rfl ?_
    refine e_icmp (t := 20) (pc' := 14) hK rfl (by first | omega | (have q := gP_b hI (show (0 : Int) ≤ (i : Int) by omega) (by omega); omega)) (by first | omega | (have q := gP_b hI (show (0 : Int) ≤ (i : Int) by omega) (by omega); omega)) (by decide) rfl (fun hb11 => ?_) (fun hb11 => ?_)
    · replace hb11 := cq_eq.1.mp hb11
      refine e_step (pc' := 21) hK rfl rfl rfl ?_
      refine e_ret hK rfl rfl rfl ?_
      refine ⟨?_, rfl, rfl⟩
      congr 1
      omega
    · replace hb11 := cq_eq.2.mp hb11
      exfalso; first | omega | exact absurd trivial (by assumption) | (first | omega | (have q := gP_b hI (show (0 : Int) ≤ (i : Int) by omega) (by omega); omega))
  | succ m ih =>
    intro i hk
    have b1 := hI.1
    have b2 := hI.2.1
    have r0 := hR.1
    have r1 := hR.2.1
    have gr := fun (k : Int) (h0 : 0 ≤ k) (h1 : k < gn A) => (hR.2.2.1 k h0 h1).2
    have hK : (mv_m 129).1 = kc_Mod_firstLine := rfl
    have q9 := gP_b hI (show (0 : Int) ≤ (i : Int) by omega) (by omega)
    have hz : (i : Int) = F → gP A i = t := fun e => by { rw [e]; exact h1 }
    have hy := h2 i
    refine e_step (pc' := 3) hK rfl rfl rfl ?_
    refine e_step (pc' := 4) hK rfl rfl rfl ?_
    refine e_cRS1 (z := 116) (pc' := 7) hK rfl rfl rfl (Nat.le_of_ble_eq_true rfl) (Nat.le_of_ble_eq_true rfl) (m_lineAt _) (by decide) rfl ?_
    try simp (disch := omega) only [mH_t64, mH_r1, mH_r3, mH_r4, mH_r5, mH_r6, mH_r8, mH_r9, mH_r10, mH_r11, mH_r12, mH_r14, mH_i0, mH_i2, mH_i7, mH_i13, mH_i15, mH_t71, mH_t, mH_lr, mH_l65, mH_l69, mH_l70, mH_l71, mH_l72, mH_l73, mH_l74, mH_l75, mH_c, gr]
    refine e_step (pc' := 8) hK rfl rfl rfl ?_
    refine e_step (pc' := 9) hK rfl rfl rfl ?_
    refine e_iald (pc' := 10) hK rfl (by simp (disch := omega) only [mH_t64, mH_r1, mH_r3, mH_r4, mH_r5, mH_r6, mH_r8, mH_r9, mH_r10, mH_r11, mH_r12, mH_r14, mH_i0, mH_i2, mH_i7, mH_i13, mH_i15, mH_t71, mH_t, mH_lr, mH_l65, mH_l69, mH_l70, mH_l71, mH_l72, mH_l73, mH_l74, mH_l75, mH_c, gr]) (by first | omega | (have q := gP_b hI (show (0 : Int) ≤ (i : Int) by omega) (by omega); omega)) (by (try simp (disch := omega) only [mH_t64, mH_r1, mH_r3, mH_r4, mH_r5, mH_r6, mH_r8, mH_r9, mH_r10, mH_r11, mH_r12, mH_r14, mH_i0, mH_i2, mH_i7, mH_i13, mH_i15, mH_t71, mH_t, mH_lr, mH_l65, mH_l69, mH_l70, mH_l71, mH_l72, mH_l73, mH_l74, mH_l75, mH_c, gr]); first | omega | (have q := gP_b hI (show (0 : Int) ≤ (i : Int) by omega) (by omega); omega)) rfl ?_
    try simp (disch := omega) only [mH_t64, mH_r1, mH_r3, mH_r4, mH_r5, mH_r6, mH_r8, mH_r9, mH_r10, mH_r11, mH_r12, mH_r14, mH_i0, mH_i2, mH_i7, mH_i13, mH_i15, mH_t71, mH_t, mH_lr, mH_l65, mH_l69, mH_l70, mH_l71, mH_l72, mH_l73, mH_l74, mH_l75, mH_c, gr]
    refine e_step (pc' := 11) hK rfl rfl rfl ?_
    refine e_icmp (t := 20) (pc' := 14) hK rfl (by first | omega | (have q := gP_b hI (show (0 : Int) ≤ (i : Int) by omega) (by omega); omega)) (by first | omega | (have q := gP_b hI (show (0 : Int) ≤ (i : Int) by omega) (by omega); omega)) (by decide) rfl (fun hb11 => ?_) (fun hb11 => ?_)
    · replace hb11 := cq_eq.1.mp hb11
      exfalso; first | omega | exact absurd trivial (by assumption) | (first | omega | (have q := gP_b hI (show (0 : Int) ≤ (i : Int) by omega) (by omega); omega))
    · replace hb11 := cq_eq.2.mp hb11
      refine e_step (pc' := 17) hK rfl rfl rfl ?_
      try simp only [List.set_cons_zero, List.set_cons_succ]
      refine e_goto (t := 2) hK rfl (by decide) ?_
      exact ih (i + 1) (by omega)
set_option maxRecDepth 10000 in
theorem m_first (a : Int) (ha : 266 ≤ a ∧ a ≤ 268) {A : lg} (hR : Rw (v a) A) (hI : gI A) (t : Int) (h0 : 0 ≤ t) (h1 : t < gT A) : mv_Cl sc q_Mod_firstLine [(2, a), (0, t)] c (mH h v) (mv_Rd (0, gfi A t) c (mH h v)) := by
  have b1 := hI.1
  have b2 := hI.2.1
  show mv_Ev sc 129 0 [(2, a), (0, t), (5, 0)] [] c (mH h v) _
  have hK : (mv_m 129).1 = kc_Mod_firstLine := rfl
  refine e_step (pc' := 1) hK rfl rfl rfl ?_
  refine e_step (pc' := 2) hK rfl rfl rfl ?_
  try simp only [List.set_cons_zero, List.set_cons_succ]
  have g := gfi_b hI h0 h1
  have e : gfi A t = ((gfi A t).toNat : Int) := by omega
  rw [e]
  exact m_first1 a ha hR hI t (by omega) (gfi A t).toNat (by omega) (by rw [← e]; exact g.2.2.1) (fun j hj => g.2.2.2 j (by omega)) (gfi A t).toNat 0 (by omega)
set_option maxRecDepth 10000 in
theorem m_linesOf1 (a : Int) (ha : 266 ≤ a ∧ a ≤ 268) {A : lg} (hR : Rw (v a) A) (hI : gI A) (t : Int) (ht : mv_i t) (e : Int) (h0 : 0 ≤ e) (h1 : e ≤ gn A) : ∀ (m : Nat) (i : Nat), i + m = e.toNat → mv_Ev sc 135 5 [(2, a), (0, t), (0, e), (0, lc (fun k => decide (gP A k = t)) i), (0, (i : Int))] [] c (mH h v) (mv_Rd (0, lc (fun k => decide (gP A k = t)) e.toNat) c (mH h v)) := by
  intro m
  induction m with
  | zero =>
    intro i hk
    have b1 := hI.1
    have b2 := hI.2.1
    have r0 := hR.1
    have r1 := hR.2.1
    have gr := fun (k : Int) (h0 : 0 ≤ k) (h1 : k < gn A) => (hR.2.2.1 k h0 h1).2
    have hK : (mv_m 135).1 = kc_Mod_linesOf := rfl
    refine e_step (pc' := 7) hK rfl rfl rfl ?_
    refine e_step (pc' := 8) hK rfl rfl rfl ?_
    refine e_icmp (t := 38) (pc' := 11) hK rfl (by omega) (by omega) (by decide) rfl (fun hb8 => ?_) (fun hb8 => ?_)
    · replace hb8 := cq_ge.1.mp hb8
      refine e_step (pc' := 39) hK rfl rfl rfl ?_
      refine e_ret hK rfl rfl rfl ?_
      refine ⟨?_, rfl, rfl⟩
      congr 1
      rw [show e.toNat = i from by omega]
    · replace hb8 := cq_ge.2.mp hb8
      exfalso; first | omega | exact absurd trivial (by assumption)
  | succ m ih =>
    intro i hk
    have b1 := hI.1
    have b2 := hI.2.1
    have r0 := hR.1
    have r1 := hR.2.1
    have gr := fun (k : Int) (h0 : 0 ≤ k) (h1 : k < gn A) => (hR.2.2.1 k h0 h1).2
    have hK : (mv_m 135).1 = kc_Mod_linesOf := rfl
    refine e_step (pc' := 7) hK rfl rfl rfl ?_
    refine e_step (pc' := 8) hK rfl rfl rfl ?_
    refine e_icmp (t := 38) (pc' := 11) hK rfl (by omega) (by omega) (by decide) rfl (fun hb8 => ?_) (fun hb8 => ?_)
    · replace hb8 := cq_ge.1.mp hb8
      exfalso; first | omega | exact absurd trivial (by assumption)
    · replace hb8 := cq_ge.2.mp hb8
      have q9 := gP_b hI (show (0 : Int) ≤ (i : Int) by omega) (by omega)
      refine e_step (pc' := 12) hK rfl rfl rfl ?_
      refine e_step (pc' := 13) hK rfl rfl rfl ?_
      refine e_step (pc' := 15) hK rfl rfl rfl ?_
      refine e_cRS1 (z := 116) (pc' := 18) hK rfl rfl rfl (Nat.le_of_ble_eq_true rfl) (Nat.le_of_ble_eq_true rfl) (m_lineAt _) (by decide) rfl ?_
      try simp (disch := omega) only [mH_t64, mH_r1, mH_r3, mH_r4, mH_r5, mH_r6, mH_r8, mH_r9, mH_r10, mH_r11, mH_r12, mH_r14, mH_i0, mH_i2, mH_i7, mH_i13, mH_i15, mH_t71, mH_t, mH_lr, mH_l65, mH_l69, mH_l70, mH_l71, mH_l72, mH_l73, mH_l74, mH_l75, mH_c, gr]
      refine e_step (pc' := 19) hK rfl rfl rfl ?_
      refine e_step (pc' := 20) hK rfl rfl rfl ?_
      refine e_iald (pc' := 21) hK rfl (by simp (disch := omega) only [mH_t64, mH_r1, mH_r3, mH_r4, mH_r5, mH_r6, mH_r8, mH_r9, mH_r10, mH_r11, mH_r12, mH_r14, mH_i0, mH_i2, mH_i7, mH_i13, mH_i15, mH_t71, mH_t, mH_lr, mH_l65, mH_l69, mH_l70, mH_l71, mH_l72, mH_l73, mH_l74, mH_l75, mH_c, gr]) (by omega) (by (try simp (disch := omega) only [mH_t64, mH_r1, mH_r3, mH_r4, mH_r5, mH_r6, mH_r8, mH_r9, mH_r10, mH_r11, mH_r12, mH_r14, mH_i0, mH_i2, mH_i7, mH_i13, mH_i15, mH_t71, mH_t, mH_lr, mH_l65, mH_l69, mH_l70, mH_l71, mH_l72, mH_l73, mH_l74, mH_l75, mH_c, gr]); omega) rfl ?_
      try simp (disch := omega) only [mH_t64, mH_r1, mH_r3, mH_r4, mH_r5, mH_r6, mH_r8, mH_r9, mH_r10, mH_r11, mH_r12, mH_r14, mH_i0, mH_i2, mH_i7, mH_i13, mH_i15, mH_t71, mH_t, mH_lr, mH_l65, mH_l69, mH_l70, mH_l71, mH_l72, mH_l73, mH_l74, mH_l75, mH_c, gr]
      refine e_step (pc' := 22) hK rfl rfl rfl ?_
      refine e_icmp (t := 29) (pc' := 25) hK rfl (by omega) (by omega) (by decide) rfl (fun hb22 => ?_) (fun hb22 => ?_)
      · replace hb22 := cq_ne.1.mp hb22
        refine e_step (pc' := 30) hK rfl rfl rfl ?_
        refine e_step (pc' := 31) hK rfl rfl rfl ?_
        refine e_step (pc' := 32) hK rfl rfl rfl ?_
        try simp only [List.set_cons_zero, List.set_cons_succ]
        refine e_step (pc' := 35) hK rfl rfl rfl ?_
        try simp only [List.set_cons_zero, List.set_cons_succ]
        refine e_goto (t := 5) hK rfl (by decide) ?_
        rw [Int.add_zero, ← lc_f (q := fun k => decide (gP A k = t)) (decide_eq_false hb22)]
        exact ih (i + 1) (by omega)
      · replace hb22 := cq_ne.2.mp hb22
        refine e_step (pc' := 26) hK rfl rfl rfl ?_
        refine e_goto (t := 30) hK rfl (by decide) ?_
        refine e_step (pc' := 31) hK rfl rfl rfl ?_
        refine e_step (pc' := 32) hK rfl rfl rfl ?_
        try simp only [List.set_cons_zero, List.set_cons_succ]
        refine e_step (pc' := 35) hK rfl rfl rfl ?_
        try simp only [List.set_cons_zero, List.set_cons_succ]
        refine e_goto (t := 5) hK rfl (by decide) ?_
        rw [← lc_t (q := fun k => decide (gP A k = t)) (decide_eq_true hb22)]
        exact ih (i + 1) (by omega)
set_option maxRecDepth 10000 in
theorem m_linesOf (a : Int) (ha : 266 ≤ a ∧ a ≤ 268) {A : lg} (hR : Rw (v a) A) (hI : gI A) (t : Int) (ht : mv_i t) (e : Int) (h0 : 0 ≤ e) (h1 : e ≤ gn A) : mv_Cl sc q_Mod_linesOf [(2, a), (0, t), (0, e)] c (mH h v) (mv_Rd (0, lc (fun k => decide (gP A k = t)) e.toNat) c (mH h v)) := by
  show mv_Ev sc 135 0 [(2, a), (0, t), (0, e), (5, 0), (5, 0)] [] c (mH h v) _
  have hK : (mv_m 135).1 = kc_Mod_linesOf := rfl
  refine e_step (pc' := 1) hK rfl rfl rfl ?_
  refine e_step (pc' := 2) hK rfl rfl rfl ?_
  try simp only [List.set_cons_zero, List.set_cons_succ]
  refine e_step (pc' := 3) hK rfl rfl rfl ?_
  refine e_step (pc' := 5) hK rfl rfl rfl ?_
  try simp only [List.set_cons_zero, List.set_cons_succ]
  exact m_linesOf1 a ha hR hI t ht e h0 h1 e.toNat 0 (by omega)
end MD
