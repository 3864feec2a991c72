/-! the reference's face: simulate (written by wip/whole/m78.py) -/
section GH
variable {sc : Int × (Int → Int)} {c : mv_C} {h : mv_H} {v : mvt}
set_option maxRecDepth 10000 in
theorem g_simL {W : wt} (x0 k : Int) (hk : 1 ≤ k ∧ k ≤ 30) (R : lg) : ∀ (m : Nat) (i u : Nat) (x y : Int) (D : lg) (w : mvt) (a8 : mv_V), (i + m = k.toNat ∧ Rw (w 267) D ∧ sz D ∧ MdA w W ∧ w 264 0 = 0 ∧ 0 ≤ y ∧ y ≤ 7 + 2 * i ∧ sml m x y u D = R) → mv_Ev sc 179 49 [(2, 264), (1, x0), (5, 0), (0, k), (1, x), (5, 0), (0, y), (0, (i : Int)), a8] [] c (mH h w) (fun r c' h' => r = (0, 1000 * (gT R : Int) + (if cal R ≤ 999 then cal R else 999)) ∧ c' = c ∧ ∃ w, h' = mH h w ∧ MdA w W ∧ w 264 0 = 0) := by
  intro m
  induction m with
  | zero =>
    intro i u x y D w a8 ⟨hi, hR, hz, hM, hzz, hy0, hy1, hRR⟩
    have hK : (mv_m 179).1 = kc_Mod_simulate := rfl
    refine e_step (pc' := 51) hK rfl rfl rfl ?_
    refine e_step (pc' := 52) hK rfl rfl rfl ?_
    refine e_icmp (t := 130) (pc' := 55) hK rfl (by first | omega | exact bo_i _) (by first | omega | exact bo_i _) (by decide) rfl (fun hb52 => ?_) (fun hb52 => ?_)
    · replace hb52 := cq_ge.1.mp hb52
      try simp only [bo_0, Bool.not_eq_false] at hb52
      have hRD : D = R := hRR
      have hgB := sz_B hz
      have q1 := cols_b hgB
      have q2 := cots_b hgB
      have hcal : cols D + cots D = cal D := rfl
      refine e_step (pc' := 131) hK rfl rfl rfl ?_
      refine e_step (pc' := 132) hK rfl rfl rfl ?_
      refine e_getR (ci := 4) (k := 4) (pc' := 135) hK rfl (by simp (disch := omega) only [mH_t64, mH_r1, mH_r3, mH_r4, mH_r5, mH_r6, mH_r8, mH_r9, mH_r10, mH_r11, mH_r12, mH_r14, mH_i0, mH_i2, mH_i7, mH_i13, mH_i15, mH_t71, mH_t, mH_lr, mH_l65, mH_l69, mH_l70, mH_l71, mH_l72, mH_l73, mH_l74, mH_l75, mH_c]) rfl rfl (by decide) (by decide) (by (try simp (disch := omega) only [mH_t64, mH_r1, mH_r3, mH_r4, mH_r5, mH_r6, mH_r8, mH_r9, mH_r10, mH_r11, mH_r12, mH_r14, mH_i0, mH_i2, mH_i7, mH_i13, mH_i15, mH_t71, mH_t, mH_lr, mH_l65, mH_l69, mH_l70, mH_l71, mH_l72, mH_l73, mH_l74, mH_l75, mH_c]); first | omega | exact bo_i _) rfl ?_
      try simp (disch := omega) only [mH_t64, mH_r1, mH_r3, mH_r4, mH_r5, mH_r6, mH_r8, mH_r9, mH_r10, mH_r11, mH_r12, mH_r14, mH_i0, mH_i2, mH_i7, mH_i13, mH_i15, mH_t71, mH_t, mH_lr, mH_l65, mH_l69, mH_l70, mH_l71, mH_l72, mH_l73, mH_l74, mH_l75, mH_c]
      refine e_cQV2 (z := 117) hK rfl rfl (by first | (simp (disch := omega) only [mH_t64, mH_r1, mH_r3, mH_r4, mH_r5, mH_r6, mH_r8, mH_r9, mH_r10, mH_r11, mH_r12, mH_r14, mH_i0, mH_i2, mH_i7, mH_i13, mH_i15, mH_t71, mH_t, mH_lr, mH_l65, mH_l69, mH_l70, mH_l71, mH_l72, mH_l73, mH_l74, mH_l75, mH_c]; rfl) | (show _ = 2; assumption) | (show _ = 1; assumption) | (show _ = 0; assumption) | (show _ = 3; assumption) | (show _ = 4; assumption)) rfl (Nat.le_of_ble_eq_true rfl) (Nat.le_of_ble_eq_true rfl) (m_costLines 267 (by omega) hR hz.1) ?_
      rintro _ _ _ ⟨rfl, rfl, w4, rfl, hw4⟩
      refine ⟨by show (0 : Nat) ≠ 4; decide, ?_⟩
      rw [if_neg (by show ¬ (0 : Nat) = 3; decide)]
      try dsimp only
      show mv_Ev _ _ 138 _ _ _ _ _
      refine e_step (pc' := 139) hK rfl rfl rfl ?_
      refine e_step (pc' := 140) hK rfl rfl rfl ?_
      refine e_getR (ci := 4) (k := 4) (pc' := 143) hK rfl (by simp (disch := omega) only [mH_t64, mH_r1, mH_r3, mH_r4, mH_r5, mH_r6, mH_r8, mH_r9, mH_r10, mH_r11, mH_r12, mH_r14, mH_i0, mH_i2, mH_i7, mH_i13, mH_i15, mH_t71, mH_t, mH_lr, mH_l65, mH_l69, mH_l70, mH_l71, mH_l72, mH_l73, mH_l74, mH_l75, mH_c]) rfl rfl (by decide) (by decide) (by (try simp (disch := omega) only [mH_t64, mH_r1, mH_r3, mH_r4, mH_r5, mH_r6, mH_r8, mH_r9, mH_r10, mH_r11, mH_r12, mH_r14, mH_i0, mH_i2, mH_i7, mH_i13, mH_i15, mH_t71, mH_t, mH_lr, mH_l65, mH_l69, mH_l70, mH_l71, mH_l72, mH_l73, mH_l74, mH_l75, mH_c]); first | omega | exact bo_i _) rfl ?_
      try simp (disch := omega) only [mH_t64, mH_r1, mH_r3, mH_r4, mH_r5, mH_r6, mH_r8, mH_r9, mH_r10, mH_r11, mH_r12, mH_r14, mH_i0, mH_i2, mH_i7, mH_i13, mH_i15, mH_t71, mH_t, mH_lr, mH_l65, mH_l69, mH_l70, mH_l71, mH_l72, mH_l73, mH_l74, mH_l75, mH_c]
      refine e_cQV2 (z := 127) hK rfl rfl (by first | (simp (disch := omega) only [mH_t64, mH_r1, mH_r3, mH_r4, mH_r5, mH_r6, mH_r8, mH_r9, mH_r10, mH_r11, mH_r12, mH_r14, mH_i0, mH_i2, mH_i7, mH_i13, mH_i15, mH_t71, mH_t, mH_lr, mH_l65, mH_l69, mH_l70, mH_l71, mH_l72, mH_l73, mH_l74, mH_l75, mH_c]; rfl) | (show _ = 2; assumption) | (show _ = 1; assumption) | (show _ = 0; assumption) | (show _ = 3; assumption) | (show _ = 4; assumption)) rfl (Nat.le_of_ble_eq_true rfl) (Nat.le_of_ble_eq_true rfl) (m_costTemps 267 (by omega) (by rw [hw4 267 (by omega) (by omega) (by omega)]; exact hR) hz.1) ?_
      rintro _ _ _ ⟨rfl, rfl, w5, rfl, hw5⟩
      refine ⟨by show (0 : Nat) ≠ 4; decide, ?_⟩
      rw [if_neg (by show ¬ (0 : Nat) = 3; decide)]
      try dsimp only
      have hR5 : Rw (w5 267) D := by { rw [hw5 267 (by omega) (by omega) (by omega), hw4 267 (by omega) (by omega) (by omega)]; exact hR }
      have r51 := hR5.2.1
      have hM5 := (hM.ms hw4).ms hw5
      have hz5 : w5 264 0 = 0 := (congrFun (hw5 264 (by omega) (by omega) (by omega)) 0).trans ((congrFun (hw4 264 (by omega) (by omega) (by omega)) 0).trans hzz)
      show mv_Ev _ _ 146 _ _ _ _ _
      refine e_step (pc' := 147) hK rfl rfl rfl ?_
      refine e_step (pc' := 149) hK rfl rfl rfl ?_
      try simp only [List.set_cons_zero, List.set_cons_succ]
      refine e_step (pc' := 152) hK rfl rfl rfl ?_
      refine e_step (pc' := 153) hK rfl rfl rfl ?_
      refine e_getR (ci := 4) (k := 4) (pc' := 156) hK rfl (by simp (disch := omega) only [mH_t64, mH_r1, mH_r3, mH_r4, mH_r5, mH_r6, mH_r8, mH_r9, mH_r10, mH_r11, mH_r12, mH_r14, mH_i0, mH_i2, mH_i7, mH_i13, mH_i15, mH_t71, mH_t, mH_lr, mH_l65, mH_l69, mH_l70, mH_l71, mH_l72, mH_l73, mH_l74, mH_l75, mH_c, r51]) rfl rfl (by decide) (by decide) (by (try simp (disch := omega) only [mH_t64, mH_r1, mH_r3, mH_r4, mH_r5, mH_r6, mH_r8, mH_r9, mH_r10, mH_r11, mH_r12, mH_r14, mH_i0, mH_i2, mH_i7, mH_i13, mH_i15, mH_t71, mH_t, mH_lr, mH_l65, mH_l69, mH_l70, mH_l71, mH_l72, mH_l73, mH_l74, mH_l75, mH_c, r51]); first | omega | exact bo_i _) rfl ?_
      try simp (disch := omega) only [mH_t64, mH_r1, mH_r3, mH_r4, mH_r5, mH_r6, mH_r8, mH_r9, mH_r10, mH_r11, mH_r12, mH_r14, mH_i0, mH_i2, mH_i7, mH_i13, mH_i15, mH_t71, mH_t, mH_lr, mH_l65, mH_l69, mH_l70, mH_l71, mH_l72, mH_l73, mH_l74, mH_l75, mH_c, r51]
      refine e_step (pc' := 157) hK rfl rfl rfl ?_
      refine e_iald (pc' := 158) hK rfl (by simp (disch := omega) only [mH_t64, mH_r1, mH_r3, mH_r4, mH_r5, mH_r6, mH_r8, mH_r9, mH_r10, mH_r11, mH_r12, mH_r14, mH_i0, mH_i2, mH_i7, mH_i13, mH_i15, mH_t71, mH_t, mH_lr, mH_l65, mH_l69, mH_l70, mH_l71, mH_l72, mH_l73, mH_l74, mH_l75, mH_c, r51]) (by first | omega | exact bo_i _) (by (try simp (disch := omega) only [mH_t64, mH_r1, mH_r3, mH_r4, mH_r5, mH_r6, mH_r8, mH_r9, mH_r10, mH_r11, mH_r12, mH_r14, mH_i0, mH_i2, mH_i7, mH_i13, mH_i15, mH_t71, mH_t, mH_lr, mH_l65, mH_l69, mH_l70, mH_l71, mH_l72, mH_l73, mH_l74, mH_l75, mH_c, r51]); first | omega | exact bo_i _) rfl ?_
      try simp (disch := omega) only [mH_t64, mH_r1, mH_r3, mH_r4, mH_r5, mH_r6, mH_r8, mH_r9, mH_r10, mH_r11, mH_r12, mH_r14, mH_i0, mH_i2, mH_i7, mH_i13, mH_i15, mH_t71, mH_t, mH_lr, mH_l65, mH_l69, mH_l70, mH_l71, mH_l72, mH_l73, mH_l74, mH_l75, mH_c, r51]
      refine e_step (pc' := 159) hK rfl rfl rfl ?_
      refine e_step (pc' := 161) hK rfl rfl rfl ?_
      refine e_step (pc' := 164) hK rfl rfl rfl ?_
      refine e_icmp (t := 173) (pc' := 167) hK rfl (by first | omega | exact bo_i _) (by first | omega | exact bo_i _) (by decide) rfl (fun hb164 => ?_) (fun hb164 => ?_)
      · replace hb164 := cq_le.1.mp hb164
        try simp only [bo_0, Bool.not_eq_false] at hb164
        refine e_step (pc' := 175) hK rfl rfl rfl ?_
        refine e_step (pc' := 176) hK rfl rfl rfl ?_
        refine e_ret hK rfl rfl rfl ?_
        rw [← hRD]
        refine ⟨?_, rfl, w5, rfl, hM5, hz5⟩
        rw [hcal, if_pos (by omega)]
      · replace hb164 := cq_le.2.mp hb164
        try simp only [bo_0, Bool.not_eq_false] at hb164
        refine e_step (pc' := 170) hK rfl rfl rfl ?_
        refine e_goto (t := 175) hK rfl (by decide) ?_
        refine e_step (pc' := 176) hK rfl rfl rfl ?_
        refine e_ret hK rfl rfl rfl ?_
        rw [← hRD]
        refine ⟨?_, rfl, w5, rfl, hM5, hz5⟩
        rw [if_neg (by omega)]
    · replace hb52 := cq_ge.2.mp hb52
      try simp only [bo_0, Bool.not_eq_false] at hb52
      exfalso; first | omega | exact absurd trivial (by assumption) | (first | omega | exact bo_i _)
  | succ m ih =>
    intro i u x y D w a8 ⟨hi, hR, hz, hM, hzz, hy0, hy1, hRR⟩
    have hK : (mv_m 179).1 = kc_Mod_simulate := rfl
    refine e_step (pc' := 51) hK rfl rfl rfl ?_
    refine e_step (pc' := 52) hK rfl rfl rfl ?_
    refine e_icmp (t := 130) (pc' := 55) hK rfl (by first | omega | exact bo_i _) (by first | omega | exact bo_i _) (by decide) rfl (fun hb52 => ?_) (fun hb52 => ?_)
    · replace hb52 := cq_ge.1.mp hb52
      try simp only [bo_0, Bool.not_eq_false] at hb52
      exfalso; first | omega | exact absurd trivial (by assumption) | (first | omega | exact bo_i _)
    · replace hb52 := cq_ge.2.mp hb52
      try simp only [bo_0, Bool.not_eq_false] at hb52
      refine e_step (pc' := 57) hK rfl rfl rfl ?_
      refine e_step (pc' := 60) hK rfl rfl rfl ?_
      refine e_step (pc' := 61) hK rfl rfl rfl ?_
      refine e_step (pc' := 64) hK rfl rfl rfl ?_
      refine e_step (pc' := 65) hK rfl rfl rfl ?_
      refine e_step (pc' := 67) hK rfl rfl rfl ?_
      try simp only [List.set_cons_zero, List.set_cons_succ]
      refine e_step (pc' := 69) hK rfl rfl rfl ?_
      refine e_step (pc' := 71) hK rfl rfl rfl ?_
      refine e_step (pc' := 72) hK rfl rfl rfl ?_
      refine e_step (pc' := 73) hK rfl rfl rfl ?_
      refine e_step (pc' := 75) hK rfl rfl rfl ?_
      try simp only [List.set_cons_zero, List.set_cons_succ]
      have er9 : (x * 6364136223846793005 + 1442695040888963407) % 18446744073709551616 / 2 ^ (33 : Int).toNat = smr (smx x) := rfl
      rw [er9]
      have hrb := smr_b (smx x)
      have hvb := smv_b (x := x) (v := y)
      refine e_step (pc' := 77) hK rfl rfl rfl ?_
      refine e_step (pc' := 79) hK rfl rfl rfl ?_
      refine e_step (pc' := 80) hK rfl rfl rfl ?_
      refine e_irem (pc' := 81) hK rfl (by first | omega | exact bo_i _) (by first | omega | exact bo_i _) (by first | omega | exact bo_i _) rfl ?_
      refine e_step (pc' := 82) hK rfl rfl rfl ?_
      refine e_step (pc' := 84) hK rfl rfl rfl ?_
      try simp only [List.set_cons_zero, List.set_cons_succ]
      show mv_Ev _ _ 84 _ _ _ _ _
      have evv : y + (smr (smx x)).tmod 3 = smv x y := rfl
      rw [evv]
      refine e_step (pc' := 85) hK rfl rfl rfl ?_
      refine e_step (pc' := 87) hK rfl rfl rfl ?_
      refine e_step (pc' := 89) hK rfl rfl rfl ?_
      refine e_cQV3 (z := 180) hK rfl rfl (by first | (simp (disch := omega) only [mH_t64, mH_r1, mH_r3, mH_r4, mH_r5, mH_r6, mH_r8, mH_r9, mH_r10, mH_r11, mH_r12, mH_r14, mH_i0, mH_i2, mH_i7, mH_i13, mH_i15, mH_t71, mH_t, mH_lr, mH_l65, mH_l69, mH_l70, mH_l71, mH_l72, mH_l73, mH_l74, mH_l75, mH_c]; rfl) | (show _ = 2; assumption) | (show _ = 1; assumption) | (show _ = 0; assumption) | (show _ = 3; assumption) | (show _ = 4; assumption)) rfl (Nat.le_of_ble_eq_true rfl) (Nat.le_of_ble_eq_true rfl) (g_drawn hR hz (smr (smx x)) (smv x y) hrb.1 hrb.2 (by omega) (by omega)) ?_
      rintro _ _ _ ⟨rfl, rfl, w1, rfl, d1, d2, hl, hok, d3⟩
      refine ⟨by decide, ?_⟩
      rw [if_pos rfl]
      try dsimp only
      have hR1 : Rw (w1 267) D := Rw_same hR hz.1 d3 hz.2.1
      have hM1 : MdA w1 W := hM.kq (fun b hb => d1 b (by omega) (by omega) (by omega)) (d2 2 (by omega)) (d2 7 (by omega))
      have hz1 : w1 264 0 = 0 := (d2 0 (by omega)).trans hzz
      have hlt : Rl (w1 267) (gn D) (smt x y u) := Rl_tg (n := (stx (smr (smx x)) (smv x y)).1) (f := (stx (smr (smx x)) (smv x y)).2) hl
      have hokt : xok (smt x y u) := xok_tg.mpr hok
      have hgc := gtf_c (A := D) (x := smt x y u)
      show mv_Ev _ _ 92 _ _ _ _ _
      refine e_step (pc' := 93) hK rfl rfl rfl ?_
      refine e_step (pc' := 94) hK rfl rfl rfl ?_
      refine e_getR (ci := 4) (k := 4) (pc' := 97) hK rfl (by simp (disch := omega) only [mH_t64, mH_r1, mH_r3, mH_r4, mH_r5, mH_r6, mH_r8, mH_r9, mH_r10, mH_r11, mH_r12, mH_r14, mH_i0, mH_i2, mH_i7, mH_i13, mH_i15, mH_t71, mH_t, mH_lr, mH_l65, mH_l69, mH_l70, mH_l71, mH_l72, mH_l73, mH_l74, mH_l75, mH_c]) rfl rfl (by decide) (by decide) (by (try simp (disch := omega) only [mH_t64, mH_r1, mH_r3, mH_r4, mH_r5, mH_r6, mH_r8, mH_r9, mH_r10, mH_r11, mH_r12, mH_r14, mH_i0, mH_i2, mH_i7, mH_i13, mH_i15, mH_t71, mH_t, mH_lr, mH_l65, mH_l69, mH_l70, mH_l71, mH_l72, mH_l73, mH_l74, mH_l75, mH_c]); first | omega | exact bo_i _) rfl ?_
      try simp (disch := omega) only [mH_t64, mH_r1, mH_r3, mH_r4, mH_r5, mH_r6, mH_r8, mH_r9, mH_r10, mH_r11, mH_r12, mH_r14, mH_i0, mH_i2, mH_i7, mH_i13, mH_i15, mH_t71, mH_t, mH_lr, mH_l65, mH_l69, mH_l70, mH_l71, mH_l72, mH_l73, mH_l74, mH_l75, mH_c]
      refine e_cQV2 (z := 147) hK rfl rfl (by first | (simp (disch := omega) only [mH_t64, mH_r1, mH_r3, mH_r4, mH_r5, mH_r6, mH_r8, mH_r9, mH_r10, mH_r11, mH_r12, mH_r14, mH_i0, mH_i2, mH_i7, mH_i13, mH_i15, mH_t71, mH_t, mH_lr, mH_l65, mH_l69, mH_l70, mH_l71, mH_l72, mH_l73, mH_l74, mH_l75, mH_c]; rfl) | (show _ = 2; assumption) | (show _ = 1; assumption) | (show _ = 0; assumption) | (show _ = 3; assumption) | (show _ = 4; assumption)) rfl (Nat.le_of_ble_eq_true rfl) (Nat.le_of_ble_eq_true rfl) (m_canSettle 267 (by omega) hR1 hz.1 hokt hlt hz.2.1) ?_
      rintro _ _ _ ⟨rfl, rfl, w2, rfl, hw2⟩
      refine ⟨by show (0 : Nat) ≠ 4; decide, ?_⟩
      rw [if_neg (by show ¬ (0 : Nat) = 3; decide)]
      try dsimp only
      have hR2 : Rw (w2 267) D := by { rw [hw2 267 (by omega) (by omega) (by omega)]; exact hR1 }
      have hM2 := hM1.ms hw2
      have hz2 : w2 264 0 = 0 := (congrFun (hw2 264 (by omega) (by omega) (by omega)) 0).trans hz1
      have hlt2 : Rl (w2 267) (gn D) (smt x y u) := by { rw [hw2 267 (by omega) (by omega) (by omega)]; exact hlt }
      show mv_Ev _ _ 100 _ _ _ _ _
      refine e_if (t := 115) (pc' := 103) hK rfl (by first | omega | exact bo_i _) (by decide) rfl (fun hb100 => ?_) (fun hb100 => ?_)
      · replace hb100 := cq_eq.1.mp hb100
        try simp only [bo_0, Bool.not_eq_false] at hb100
        refine e_step (pc' := 116) hK rfl rfl rfl ?_
        refine e_step (pc' := 117) hK rfl rfl rfl ?_
        refine e_getR (ci := 4) (k := 4) (pc' := 120) hK rfl (by simp (disch := omega) only [mH_t64, mH_r1, mH_r3, mH_r4, mH_r5, mH_r6, mH_r8, mH_r9, mH_r10, mH_r11, mH_r12, mH_r14, mH_i0, mH_i2, mH_i7, mH_i13, mH_i15, mH_t71, mH_t, mH_lr, mH_l65, mH_l69, mH_l70, mH_l71, mH_l72, mH_l73, mH_l74, mH_l75, mH_c]) rfl rfl (by decide) (by decide) (by (try simp (disch := omega) only [mH_t64, mH_r1, mH_r3, mH_r4, mH_r5, mH_r6, mH_r8, mH_r9, mH_r10, mH_r11, mH_r12, mH_r14, mH_i0, mH_i2, mH_i7, mH_i13, mH_i15, mH_t71, mH_t, mH_lr, mH_l65, mH_l69, mH_l70, mH_l71, mH_l72, mH_l73, mH_l74, mH_l75, mH_c]); first | omega | exact bo_i _) rfl ?_
        try simp (disch := omega) only [mH_t64, mH_r1, mH_r3, mH_r4, mH_r5, mH_r6, mH_r8, mH_r9, mH_r10, mH_r11, mH_r12, mH_r14, mH_i0, mH_i2, mH_i7, mH_i13, mH_i15, mH_t71, mH_t, mH_lr, mH_l65, mH_l69, mH_l70, mH_l71, mH_l72, mH_l73, mH_l74, mH_l75, mH_c]
        refine e_cQV2 (z := 164) hK rfl rfl (by first | (simp (disch := omega) only [mH_t64, mH_r1, mH_r3, mH_r4, mH_r5, mH_r6, mH_r8, mH_r9, mH_r10, mH_r11, mH_r12, mH_r14, mH_i0, mH_i2, mH_i7, mH_i13, mH_i15, mH_t71, mH_t, mH_lr, mH_l65, mH_l69, mH_l70, mH_l71, mH_l72, mH_l73, mH_l74, mH_l75, mH_c]; rfl) | (show _ = 2; assumption) | (show _ = 1; assumption) | (show _ = 0; assumption) | (show _ = 3; assumption) | (show _ = 4; assumption)) rfl (Nat.le_of_ble_eq_true rfl) (Nat.le_of_ble_eq_true rfl) (m_learnAll 267 (by omega) hR2 hz.1 hz.2.2) ?_
        rintro _ _ _ ⟨rfl, rfl, w3, rfl, hw3, rw3⟩
        refine ⟨by show (0 : Nat) ≠ 4; decide, ?_⟩
        rw [if_neg (by show ¬ (0 : Nat) = 3; decide)]
        try dsimp only
        show mv_Ev _ _ 123 _ _ _ _ _
        refine e_step (pc' := 124) hK rfl rfl rfl ?_
        refine e_step (pc' := 127) hK rfl rfl rfl ?_
        try simp only [List.set_cons_zero, List.set_cons_succ]
        refine e_goto (t := 49) hK rfl (by decide) ?_
        have hc9 := of_decide_eq_false hb100
        have hne : gtf D (smt x y u) = -9999 := Decidable.byContradiction (fun e => hc9 (hgc.2 e).1)
        have e9 : sml (m + 1) x y u D = sml m (smx x) (smv x y) u (gall D 12) := if_pos hne
        exact ih (i + 1) u (smx x) (smv x y) _ w3 _ ⟨by omega, rw3, sz_gall 12 hz, hM2.kq (fun b hb => hw3 b (by omega) (by omega) (by omega) (by omega)) (congrFun (hw3 264 (by omega) (by omega) (by omega) (by omega)) 2) (congrFun (hw3 264 (by omega) (by omega) (by omega) (by omega)) 7), (congrFun (hw3 264 (by omega) (by omega) (by omega) (by omega)) 0).trans hz2, by omega, by omega, by rw [← e9]; exact hRR⟩
      · replace hb100 := cq_eq.2.mp hb100
        try simp only [bo_0, Bool.not_eq_false] at hb100
        refine e_step (pc' := 104) hK rfl rfl rfl ?_
        refine e_step (pc' := 105) hK rfl rfl rfl ?_
        refine e_getR (ci := 4) (k := 4) (pc' := 108) hK rfl (by simp (disch := omega) only [mH_t64, mH_r1, mH_r3, mH_r4, mH_r5, mH_r6, mH_r8, mH_r9, mH_r10, mH_r11, mH_r12, mH_r14, mH_i0, mH_i2, mH_i7, mH_i13, mH_i15, mH_t71, mH_t, mH_lr, mH_l65, mH_l69, mH_l70, mH_l71, mH_l72, mH_l73, mH_l74, mH_l75, mH_c]) rfl rfl (by decide) (by decide) (by (try simp (disch := omega) only [mH_t64, mH_r1, mH_r3, mH_r4, mH_r5, mH_r6, mH_r8, mH_r9, mH_r10, mH_r11, mH_r12, mH_r14, mH_i0, mH_i2, mH_i7, mH_i13, mH_i15, mH_t71, mH_t, mH_lr, mH_l65, mH_l69, mH_l70, mH_l71, mH_l72, mH_l73, mH_l74, mH_l75, mH_c]); first | omega | exact bo_i _) rfl ?_
        try simp (disch := omega) only [mH_t64, mH_r1, mH_r3, mH_r4, mH_r5, mH_r6, mH_r8, mH_r9, mH_r10, mH_r11, mH_r12, mH_r14, mH_i0, mH_i2, mH_i7, mH_i13, mH_i15, mH_t71, mH_t, mH_lr, mH_l65, mH_l69, mH_l70, mH_l71, mH_l72, mH_l73, mH_l74, mH_l75, mH_c]
        refine e_cQV2 (z := 152) hK rfl rfl (by first | (simp (disch := omega) only [mH_t64, mH_r1, mH_r3, mH_r4, mH_r5, mH_r6, mH_r8, mH_r9, mH_r10, mH_r11, mH_r12, mH_r14, mH_i0, mH_i2, mH_i7, mH_i13, mH_i15, mH_t71, mH_t, mH_lr, mH_l65, mH_l69, mH_l70, mH_l71, mH_l72, mH_l73, mH_l74, mH_l75, mH_c]; rfl) | (show _ = 2; assumption) | (show _ = 1; assumption) | (show _ = 0; assumption) | (show _ = 3; assumption) | (show _ = 4; assumption)) rfl (Nat.le_of_ble_eq_true rfl) (Nat.le_of_ble_eq_true rfl) (m_settle 267 (by omega) hR2 hz.1 hokt hlt2 hz.2.1 hz.2.2) ?_
        rintro _ _ _ ⟨rfl, rfl, w3, rfl, hw3, rw3⟩
        refine ⟨by show (0 : Nat) ≠ 4; decide, ?_⟩
        rw [if_neg (by show ¬ (0 : Nat) = 3; decide)]
        try dsimp only
        show mv_Ev _ _ 111 _ _ _ _ _
        refine e_step (pc' := 112) hK rfl rfl rfl ?_
        refine e_goto (t := 124) hK rfl (by decide) ?_
        refine e_step (pc' := 127) hK rfl rfl rfl ?_
        try simp only [List.set_cons_zero, List.set_cons_succ]
        refine e_goto (t := 49) hK rfl (by decide) ?_
        have hc9 := of_decide_eq_true hb100
        have hne : gtf D (smt x y u) ≠ -9999 := fun e => hgc.1 e hc9
        have e9 : sml (m + 1) x y u D = sml m (smx x) (smv x y) (u + 1) (gput D (smt x y u) (gtf D (smt x y u))) := if_neg hne
        have egp := gput_w hne hz.2.2
        rw [← egp] at rw3
        exact ih (i + 1) (u + 1) (smx x) (smv x y) _ w3 _ ⟨by omega, rw3, sz_put hz hokt hne, hM2.kq (fun b hb => hw3 b (by omega) (by omega) (by omega) (by omega)) (congrFun (hw3 264 (by omega) (by omega) (by omega) (by omega)) 2) (congrFun (hw3 264 (by omega) (by omega) (by omega) (by omega)) 7), (congrFun (hw3 264 (by omega) (by omega) (by omega) (by omega)) 0).trans hz2, by omega, by omega, by rw [← e9]; exact hRR⟩
set_option maxRecDepth 10000 in
theorem g_sim {W : wt} (hM : MdA v W) (x0 : Int) (k : Int) (hk : mv_i k) : mv_Cl sc q_Mod_simulate [(2, 264), (1, x0), (0, k)] c (mH h v) (fun r c' h' => r = (0, (sp_sim W x0 k).2.1) ∧ c' = c ∧ ∃ w, h' = mH h w ∧ MdA w (sp_sim W x0 k).2.2 ∧ w 264 0 = (sp_sim W x0 k).1) := by
  have hM0 := hM
  obtain ⟨hTx, hR, ⟨hI, bn, bT⟩, hH, hz, hSv⟩ := hM
  have r0 := hR.1
  have r1 := hR.2.1
  show mv_Ev sc 179 0 [(2, 264), (1, x0), (5, 0), (0, k), (5, 0), (5, 0), (5, 0), (5, 0), (5, 0)] [] c (mH h v) _
  have hK : (mv_m 179).1 = kc_Mod_simulate := rfl
  refine e_step (pc' := 1) hK rfl rfl rfl ?_
  refine e_step (pc' := 2) hK rfl rfl rfl ?_
  refine e_i2l (pc' := 3) hK rfl (by first | omega | exact bo_i _) rfl ?_
  refine e_step (pc' := 4) hK rfl rfl rfl ?_
  show mv_Ev _ _ 4 _ ((1, (1 : Int)) :: _) _ _ _
  refine e_step (pc' := 7) hK rfl rfl rfl ?_
  refine e_cRS3 (z := 109) (pc' := 10) hK rfl rfl rfl (Nat.le_of_ble_eq_true rfl) (Nat.le_of_ble_eq_true rfl) (m_in k 1 30 (by omega) (by omega) (by omega)) (by decide) rfl ?_
  try simp (disch := omega) only [mH_t64, mH_r1, mH_r3, mH_r4, mH_r5, mH_r6, mH_r8, mH_r9, mH_r10, mH_r11, mH_r12, mH_r14, mH_i0, mH_i2, mH_i7, mH_i13, mH_i15, mH_t71, mH_t, mH_lr, mH_l65, mH_l69, mH_l70, mH_l71, mH_l72, mH_l73, mH_l74, mH_l75, mH_c]
  refine e_if (t := 17) (pc' := 13) hK rfl (by first | omega | exact bo_i _) (by decide) rfl (fun hb10 => ?_) (fun hb10 => ?_)
  · replace hb10 := cq_eq.1.mp hb10
    try simp only [bo_0, Bool.not_eq_false] at hb10
    simp only [Bool.and_eq_false_iff, decide_eq_false_iff_not] at hb10
    refine e_step (pc' := 18) hK rfl rfl rfl ?_
    refine e_cQV2 (z := 110) hK rfl rfl (by first | (simp (disch := omega) only [mH_t64, mH_r1, mH_r3, mH_r4, mH_r5, mH_r6, mH_r8, mH_r9, mH_r10, mH_r11, mH_r12, mH_r14, mH_i0, mH_i2, mH_i7, mH_i13, mH_i15, mH_t71, mH_t, mH_lr, mH_l65, mH_l69, mH_l70, mH_l71, mH_l72, mH_l73, mH_l74, mH_l75, mH_c]; rfl) | (show _ = 2; assumption) | (show _ = 1; assumption) | (show _ = 0; assumption) | (show _ = 3; assumption) | (show _ = 4; assumption)) rfl (Nat.le_of_ble_eq_true rfl) (Nat.le_of_ble_eq_true rfl) (m_refP 1 (by omega)) ?_
    rintro _ _ _ ⟨rfl, rfl, rfl⟩
    refine ⟨by show (0 : Nat) ≠ 4; decide, ?_⟩
    rw [if_neg (by show ¬ (0 : Nat) = 3; decide)]
    try dsimp only
    have hM1 := hM0.rf 1
    obtain ⟨v1, hv1⟩ : ∃ v1, v1 = gu v 264 (mv_up (v 264) 0 1) := ⟨_, rfl⟩
    rw [← hv1] at hM1 ⊢
    have z1 : v1 264 0 = 1 := by { rw [hv1, gu_s, up_s] }
    have eo1 : ∀ b : Int, b ≠ 264 → v1 b = v b := fun b hb => by { rw [hv1]; exact gu_n hb }
    have ef1 : ∀ k : Int, k ≠ 0 → v1 264 k = v 264 k := fun k hk => by { rw [hv1, gu_s, up_n hk] }
    have hR1 := hM1.2.1
    have ra1 := hR1.1
    have rb1 := hR1.2.1
    clear hv1
    show mv_Ev _ _ 21 _ _ _ _ _
    refine e_if (t := 26) (pc' := 24) hK rfl (by first | omega | exact bo_i _) (by decide) rfl (fun hb21 => ?_) (fun hb21 => ?_)
    · replace hb21 := cq_eq.1.mp hb21
      try simp only [bo_0, Bool.not_eq_false] at hb21
      exfalso; first | omega | exact absurd trivial (by assumption) | (first | omega | exact bo_i _)
    · replace hb21 := cq_eq.2.mp hb21
      try simp only [bo_0, Bool.not_eq_false] at hb21
      refine e_step (pc' := 25) hK rfl rfl rfl ?_
      refine e_ret hK rfl rfl rfl ?_
      have e9 : sp_sim W x0 k = (1, 0, W) := by { unfold sp_sim; (repeat (first | rw [if_pos (by omega)] | rw [if_neg (by omega)])) }
      rw [e9]
      exact ⟨rfl, rfl, v1, rfl, hM1, z1⟩
  · replace hb10 := cq_eq.2.mp hb10
    try simp only [bo_0, Bool.not_eq_false] at hb10
    simp only [Bool.and_eq_true, decide_eq_true_eq] at hb10
    refine e_step (pc' := 14) hK rfl rfl rfl ?_
    refine e_goto (t := 18) hK rfl (by decide) ?_
    refine e_cQV2 (z := 110) hK rfl rfl (by first | (simp (disch := omega) only [mH_t64, mH_r1, mH_r3, mH_r4, mH_r5, mH_r6, mH_r8, mH_r9, mH_r10, mH_r11, mH_r12, mH_r14, mH_i0, mH_i2, mH_i7, mH_i13, mH_i15, mH_t71, mH_t, mH_lr, mH_l65, mH_l69, mH_l70, mH_l71, mH_l72, mH_l73, mH_l74, mH_l75, mH_c]; rfl) | (show _ = 2; assumption) | (show _ = 1; assumption) | (show _ = 0; assumption) | (show _ = 3; assumption) | (show _ = 4; assumption)) rfl (Nat.le_of_ble_eq_true rfl) (Nat.le_of_ble_eq_true rfl) (m_ref0) ?_
    rintro _ _ _ ⟨rfl, rfl, rfl⟩
    refine ⟨by show (0 : Nat) ≠ 4; decide, ?_⟩
    rw [if_neg (by show ¬ (0 : Nat) = 3; decide)]
    try dsimp only
    have hM1 := hM0.rf 0
    obtain ⟨v1, hv1⟩ : ∃ v1, v1 = gu v 264 (mv_up (v 264) 0 0) := ⟨_, rfl⟩
    rw [← hv1] at hM1 ⊢
    have z1 : v1 264 0 = 0 := by { rw [hv1, gu_s, up_s] }
    have eo1 : ∀ b : Int, b ≠ 264 → v1 b = v b := fun b hb => by { rw [hv1]; exact gu_n hb }
    have ef1 : ∀ k : Int, k ≠ 0 → v1 264 k = v 264 k := fun k hk => by { rw [hv1, gu_s, up_n hk] }
    have hR1 := hM1.2.1
    have ra1 := hR1.1
    have rb1 := hR1.2.1
    clear hv1
    show mv_Ev _ _ 21 _ _ _ _ _
    refine e_if (t := 26) (pc' := 24) hK rfl (by first | omega | exact bo_i _) (by decide) rfl (fun hb21 => ?_) (fun hb21 => ?_)
    · replace hb21 := cq_eq.1.mp hb21
      try simp only [bo_0, Bool.not_eq_false] at hb21
      refine e_step (pc' := 27) hK rfl rfl rfl ?_
      refine e_getR (ci := 4) (k := 3) (pc' := 30) hK rfl (by simp (disch := omega) only [mH_t64, mH_r1, mH_r3, mH_r4, mH_r5, mH_r6, mH_r8, mH_r9, mH_r10, mH_r11, mH_r12, mH_r14, mH_i0, mH_i2, mH_i7, mH_i13, mH_i15, mH_t71, mH_t, mH_lr, mH_l65, mH_l69, mH_l70, mH_l71, mH_l72, mH_l73, mH_l74, mH_l75, mH_c, ra1, rb1]) rfl rfl (by decide) (by decide) (by (try simp (disch := omega) only [mH_t64, mH_r1, mH_r3, mH_r4, mH_r5, mH_r6, mH_r8, mH_r9, mH_r10, mH_r11, mH_r12, mH_r14, mH_i0, mH_i2, mH_i7, mH_i13, mH_i15, mH_t71, mH_t, mH_lr, mH_l65, mH_l69, mH_l70, mH_l71, mH_l72, mH_l73, mH_l74, mH_l75, mH_c, ra1, rb1]); first | omega | exact bo_i _) rfl ?_
      try simp (disch := omega) only [mH_t64, mH_r1, mH_r3, mH_r4, mH_r5, mH_r6, mH_r8, mH_r9, mH_r10, mH_r11, mH_r12, mH_r14, mH_i0, mH_i2, mH_i7, mH_i13, mH_i15, mH_t71, mH_t, mH_lr, mH_l65, mH_l69, mH_l70, mH_l71, mH_l72, mH_l73, mH_l74, mH_l75, mH_c, ra1, rb1]
      refine e_step (pc' := 31) hK rfl rfl rfl ?_
      refine e_step (pc' := 32) hK rfl rfl rfl ?_
      refine e_getR (ci := 4) (k := 4) (pc' := 35) hK rfl (by simp (disch := omega) only [mH_t64, mH_r1, mH_r3, mH_r4, mH_r5, mH_r6, mH_r8, mH_r9, mH_r10, mH_r11, mH_r12, mH_r14, mH_i0, mH_i2, mH_i7, mH_i13, mH_i15, mH_t71, mH_t, mH_lr, mH_l65, mH_l69, mH_l70, mH_l71, mH_l72, mH_l73, mH_l74, mH_l75, mH_c, ra1, rb1]) rfl rfl (by decide) (by decide) (by (try simp (disch := omega) only [mH_t64, mH_r1, mH_r3, mH_r4, mH_r5, mH_r6, mH_r8, mH_r9, mH_r10, mH_r11, mH_r12, mH_r14, mH_i0, mH_i2, mH_i7, mH_i13, mH_i15, mH_t71, mH_t, mH_lr, mH_l65, mH_l69, mH_l70, mH_l71, mH_l72, mH_l73, mH_l74, mH_l75, mH_c, ra1, rb1]); first | omega | exact bo_i _) rfl ?_
      try simp (disch := omega) only [mH_t64, mH_r1, mH_r3, mH_r4, mH_r5, mH_r6, mH_r8, mH_r9, mH_r10, mH_r11, mH_r12, mH_r14, mH_i0, mH_i2, mH_i7, mH_i13, mH_i15, mH_t71, mH_t, mH_lr, mH_l65, mH_l69, mH_l70, mH_l71, mH_l72, mH_l73, mH_l74, mH_l75, mH_c, ra1, rb1]
      refine e_step (pc' := 36) hK rfl rfl rfl ?_
      refine e_cQS4 (z := 151) hK rfl rfl rfl (Nat.le_of_ble_eq_true rfl) (Nat.le_of_ble_eq_true rfl) (m_copyLog 266 0 267 0 (by omega) (by omega) (by omega) (by omega) (by omega) (by show (0 : Int) + 1221 ≤ 1221 ∧ (1221 : Int) ≤ 20000; omega) (by show (0 : Int) + 1221 ≤ 1221 ∧ (1221 : Int) ≤ 20000; omega)) ?_
      rintro _ _ _ ⟨rfl, rfl, y, rfl, hy, ry⟩
      refine ⟨by decide, ?_⟩
      rw [if_pos rfl]
      try dsimp only
      have hRt : Rw (y 267) (wA W) := Rw_ext hR1 hI (fun q q0 q1 => by { rw [ry q, if_pos (by omega)]; exact congrArg (v1 266) (by omega) })
      have hMy : MdA y W := hM1.kq (fun b hb => hy b (by omega)) (congrFun (hy 264 (by omega)) 2) (congrFun (hy 264 (by omega)) 7)
      have zy : y 264 0 = 0 := (congrFun (hy 264 (by omega)) 0).trans z1
      show mv_Ev _ _ 39 _ _ _ _ _
      refine e_step (pc' := 40) hK rfl rfl rfl ?_
      refine e_step (pc' := 42) hK rfl rfl rfl ?_
      try simp only [List.set_cons_zero, List.set_cons_succ]
      refine e_step (pc' := 44) hK rfl rfl rfl ?_
      refine e_step (pc' := 46) hK rfl rfl rfl ?_
      try simp only [List.set_cons_zero, List.set_cons_succ]
      refine e_step (pc' := 47) hK rfl rfl rfl ?_
      refine e_step (pc' := 49) hK rfl rfl rfl ?_
      try simp only [List.set_cons_zero, List.set_cons_succ]
      have e9 : sp_sim W x0 k = (0, 1000 * (gT (sml k.toNat x0 7 0 (wA W)) : Int) + (if cal (sml k.toNat x0 7 0 (wA W)) ≤ 999 then cal (sml k.toNat x0 7 0 (wA W)) else 999), W) := by { unfold sp_sim; rw [if_pos ⟨by omega, by omega⟩] }
      rw [e9]
      exact g_simL x0 k (by omega) _ k.toNat 0 0 x0 7 (wA W) y _ ⟨by omega, hRt, ⟨hI, bn, bT⟩, hMy, zy, by omega, by omega, rfl⟩
    · replace hb21 := cq_eq.2.mp hb21
      try simp only [bo_0, Bool.not_eq_false] at hb21
      exfalso; first | omega | exact absurd trivial (by assumption) | (first | omega | exact bo_i _)
end GH
