/-! the reference: pieces (written by wip/whole/m41.py) -/
section MC
variable {sc : Int × (Int → Int)} {c : mv_C} {h : mv_H} {v : mvt}
set_option maxRecDepth 10000 in
theorem m_cut1 (a : Int) (ha : 266 ≤ a ∧ a ≤ 268) (i o : Int) (hi : 0 ≤ i ∧ i ≤ 24) (ho : o = 0 ∨ o = 12) {x : xt} (hx : xok x) (hl : Rl (v a) i x) : ∀ (m : Nat) (k : Nat) (w : mvt) (a7 : mv_V), k + m = x.1 ∧ Ct w o (2 + 42 * i + 2) (px x.2 k) ∧ Cf v w o → mv_Ev sc 123 12 [(2, 264), (2, a), (0, i), (0, o), (0, 2 + 42 * i), (0, (px x.2 k).1), (0, (k : Int)), a7] [] c (mH h w) (fun r c' h' => r = (0, xn x) ∧ c' = c ∧ ∃ w, h' = mH h w ∧ Cf v w o ∧ Ct w o (2 + 42 * i + 2) (px x.2 x.1)) := by
  intro m
  induction m with
  | zero =>
    intro k w a7 ⟨hk, hc, hf⟩
    have b1 := (px_okI (f := x.2) (n := k) (fun j hj => hx j (by omega)))
    have b2 := px_mono (f := x.2) (n := k) (m := x.1) (by omega)
    have b3 := xn_b hx
    have b4 : (px x.2 x.1).1 = xn x := rfl
    obtain ⟨p1, p2, p3, p4, p5⟩ := b1
    have ea : w a = v a := hf.1 a (by omega) (by omega) (by omega)
    have r1 : v a (2 + 42 * i) = x.1 := hl.1
    have r2 : k < x.1 → v a (2 + 42 * i + 2 + (k : Int)) = x.2 (k : Int) := fun hk => hl.2 k (by omega) (by omega)
    have kc : k < x.1 → px_k (x.2 (k : Int)) ≠ -1 ∧ mv_i (x.2 (k : Int)) := fun hk => ⟨(hx k hk).1, px_chi hx (by omega) (by omega)⟩
    have kb := px_kb (x.2 (k : Int))
    generalize hP : px x.2 k = P at *
    have hc9 : 0 < P.1 → w 274 (o + P.1 - 1) = P.2.1 (P.1 - 1) := fun h9 => by { have := (hc (P.1 - 1) (by omega) (by omega)).2.2; rw [show o + (P.1 - 1) = o + P.1 - 1 from by omega] at this; exact this }
    have hs9 : 0 < P.1 → w 273 (o + P.1 - 1) = P.2.2.2.1 (P.1 - 1) := fun h9 => by { have := (hc (P.1 - 1) (by omega) (by omega)).2.1; rw [show o + (P.1 - 1) = o + P.1 - 1 from by omega] at this; exact this }
    have hs8 : 0 < P.1 → 1 ≤ P.2.2.2.1 (P.1 - 1) ∧ P.2.2.2.1 (P.1 - 1) ≤ 40 := fun h9 => by { have := p5 (P.1 - 1) (by omega) (by omega); omega }
    have hk8 : 0 < P.1 → 0 ≤ P.2.1 (P.1 - 1) ∧ P.2.1 (P.1 - 1) ≤ 3 := fun h9 => by { have := p5 (P.1 - 1) (by omega) (by omega); omega }
    have gf : ∀ b : Int, b ≠ 272 → b ≠ 273 → b ≠ 274 → w b = v b := hf.1
    have hK : (mv_m 123).1 = kc_Mod_cut := rfl
    refine e_step (pc' := 14) hK rfl rfl rfl ?_
    refine e_step (pc' := 15) hK rfl rfl rfl ?_
    refine e_step (pc' := 17) hK rfl rfl rfl ?_
    refine e_iald (pc' := 18) hK rfl (by simp (disch := omega) only [mH_t64, mH_r1, mH_r3, mH_r4, mH_r5, mH_r6, mH_r8, mH_r9, mH_r10, mH_r11, mH_r12, mH_r14, mH_i0, mH_i2, mH_i7, mH_i13, mH_i15, mH_t71, mH_t, mH_lr, mH_l65, mH_l69, mH_l70, mH_l71, mH_l72, mH_l73, mH_l74, mH_l75, mH_c, gu_s, gu_n, ea, r1, r2]) (by omega) (by (try simp (disch := omega) only [mH_t64, mH_r1, mH_r3, mH_r4, mH_r5, mH_r6, mH_r8, mH_r9, mH_r10, mH_r11, mH_r12, mH_r14, mH_i0, mH_i2, mH_i7, mH_i13, mH_i15, mH_t71, mH_t, mH_lr, mH_l65, mH_l69, mH_l70, mH_l71, mH_l72, mH_l73, mH_l74, mH_l75, mH_c, gu_s, gu_n, ea, r1, r2]); omega) rfl ?_
    try simp (disch := omega) only [mH_t64, mH_r1, mH_r3, mH_r4, mH_r5, mH_r6, mH_r8, mH_r9, mH_r10, mH_r11, mH_r12, mH_r14, mH_i0, mH_i2, mH_i7, mH_i13, mH_i15, mH_t71, mH_t, mH_lr, mH_l65, mH_l69, mH_l70, mH_l71, mH_l72, mH_l73, mH_l74, mH_l75, mH_c, gu_s, gu_n, ea, r1, r2]
    refine e_icmp (t := 123) (pc' := 21) hK rfl (by omega) (by omega) (by decide) rfl (fun hb18 => ?_) (fun hb18 => ?_)
    · replace hb18 := cq_ge.1.mp hb18
      refine e_step (pc' := 125) hK rfl rfl rfl ?_
      refine e_ret hK rfl rfl rfl ?_
      have e : k = x.1 := by omega
      subst e
      subst hP
      exact ⟨rfl, rfl, w, rfl, hf, hc⟩
    · replace hb18 := cq_ge.2.mp hb18
      exfalso; first | omega | exact absurd trivial (by assumption)
  | succ m ih =>
    intro k w a7 ⟨hk, hc, hf⟩
    have b1 := (px_okI (f := x.2) (n := k) (fun j hj => hx j (by omega)))
    have b2 := px_mono (f := x.2) (n := k) (m := x.1) (by omega)
    have b3 := xn_b hx
    have b4 : (px x.2 x.1).1 = xn x := rfl
    obtain ⟨p1, p2, p3, p4, p5⟩ := b1
    have ea : w a = v a := hf.1 a (by omega) (by omega) (by omega)
    have r1 : v a (2 + 42 * i) = x.1 := hl.1
    have r2 : k < x.1 → v a (2 + 42 * i + 2 + (k : Int)) = x.2 (k : Int) := fun hk => hl.2 k (by omega) (by omega)
    have kc : k < x.1 → px_k (x.2 (k : Int)) ≠ -1 ∧ mv_i (x.2 (k : Int)) := fun hk => ⟨(hx k hk).1, px_chi hx (by omega) (by omega)⟩
    have kb := px_kb (x.2 (k : Int))
    generalize hP : px x.2 k = P at *
    have hc9 : 0 < P.1 → w 274 (o + P.1 - 1) = P.2.1 (P.1 - 1) := fun h9 => by { have := (hc (P.1 - 1) (by omega) (by omega)).2.2; rw [show o + (P.1 - 1) = o + P.1 - 1 from by omega] at this; exact this }
    have hs9 : 0 < P.1 → w 273 (o + P.1 - 1) = P.2.2.2.1 (P.1 - 1) := fun h9 => by { have := (hc (P.1 - 1) (by omega) (by omega)).2.1; rw [show o + (P.1 - 1) = o + P.1 - 1 from by omega] at this; exact this }
    have hs8 : 0 < P.1 → 1 ≤ P.2.2.2.1 (P.1 - 1) ∧ P.2.2.2.1 (P.1 - 1) ≤ 40 := fun h9 => by { have := p5 (P.1 - 1) (by omega) (by omega); omega }
    have hk8 : 0 < P.1 → 0 ≤ P.2.1 (P.1 - 1) ∧ P.2.1 (P.1 - 1) ≤ 3 := fun h9 => by { have := p5 (P.1 - 1) (by omega) (by omega); omega }
    have gf : ∀ b : Int, b ≠ 272 → b ≠ 273 → b ≠ 274 → w b = v b := hf.1
    have hK : (mv_m 123).1 = kc_Mod_cut := rfl
    refine e_step (pc' := 14) hK rfl rfl rfl ?_
    refine e_step (pc' := 15) hK rfl rfl rfl ?_
    refine e_step (pc' := 17) hK rfl rfl rfl ?_
    refine e_iald (pc' := 18) hK rfl (by simp (disch := omega) only [mH_t64, mH_r1, mH_r3, mH_r4, mH_r5, mH_r6, mH_r8, mH_r9, mH_r10, mH_r11, mH_r12, mH_r14, mH_i0, mH_i2, mH_i7, mH_i13, mH_i15, mH_t71, mH_t, mH_lr, mH_l65, mH_l69, mH_l70, mH_l71, mH_l72, mH_l73, mH_l74, mH_l75, mH_c, gu_s, gu_n, ea, r1, r2]) (by omega) (by (try simp (disch := omega) only [mH_t64, mH_r1, mH_r3, mH_r4, mH_r5, mH_r6, mH_r8, mH_r9, mH_r10, mH_r11, mH_r12, mH_r14, mH_i0, mH_i2, mH_i7, mH_i13, mH_i15, mH_t71, mH_t, mH_lr, mH_l65, mH_l69, mH_l70, mH_l71, mH_l72, mH_l73, mH_l74, mH_l75, mH_c, gu_s, gu_n, ea, r1, r2]); omega) rfl ?_
    try simp (disch := omega) only [mH_t64, mH_r1, mH_r3, mH_r4, mH_r5, mH_r6, mH_r8, mH_r9, mH_r10, mH_r11, mH_r12, mH_r14, mH_i0, mH_i2, mH_i7, mH_i13, mH_i15, mH_t71, mH_t, mH_lr, mH_l65, mH_l69, mH_l70, mH_l71, mH_l72, mH_l73, mH_l74, mH_l75, mH_c, gu_s, gu_n, ea, r1, r2]
    refine e_icmp (t := 123) (pc' := 21) hK rfl (by omega) (by omega) (by decide) rfl (fun hb18 => ?_) (fun hb18 => ?_)
    · replace hb18 := cq_ge.1.mp hb18
      exfalso; first | omega | exact absurd trivial (by assumption)
    · replace hb18 := cq_ge.2.mp hb18
      refine e_step (pc' := 22) hK rfl rfl rfl ?_
      refine e_step (pc' := 24) hK rfl rfl rfl ?_
      refine e_step (pc' := 25) hK rfl rfl rfl ?_
      refine e_step (pc' := 26) hK rfl rfl rfl ?_
      refine e_step (pc' := 28) hK rfl rfl rfl ?_
      refine e_step (pc' := 29) hK rfl rfl rfl ?_
      refine e_iald (pc' := 30) hK rfl (by simp (disch := omega) only [mH_t64, mH_r1, mH_r3, mH_r4, mH_r5, mH_r6, mH_r8, mH_r9, mH_r10, mH_r11, mH_r12, mH_r14, mH_i0, mH_i2, mH_i7, mH_i13, mH_i15, mH_t71, mH_t, mH_lr, mH_l65, mH_l69, mH_l70, mH_l71, mH_l72, mH_l73, mH_l74, mH_l75, mH_c, gu_s, gu_n, ea, r1, r2]) (by omega) (by (try simp (disch := omega) only [mH_t64, mH_r1, mH_r3, mH_r4, mH_r5, mH_r6, mH_r8, mH_r9, mH_r10, mH_r11, mH_r12, mH_r14, mH_i0, mH_i2, mH_i7, mH_i13, mH_i15, mH_t71, mH_t, mH_lr, mH_l65, mH_l69, mH_l70, mH_l71, mH_l72, mH_l73, mH_l74, mH_l75, mH_c, gu_s, gu_n, ea, r1, r2]); omega) rfl ?_
      try simp (disch := omega) only [mH_t64, mH_r1, mH_r3, mH_r4, mH_r5, mH_r6, mH_r8, mH_r9, mH_r10, mH_r11, mH_r12, mH_r14, mH_i0, mH_i2, mH_i7, mH_i13, mH_i15, mH_t71, mH_t, mH_lr, mH_l65, mH_l69, mH_l70, mH_l71, mH_l72, mH_l73, mH_l74, mH_l75, mH_c, gu_s, gu_n, ea, r1, r2]
      refine e_cRS1 (z := 114) (pc' := 33) hK rfl rfl rfl (Nat.le_of_ble_eq_true rfl) (Nat.le_of_ble_eq_true rfl) (m_signKind (x.2 (k : Int)) (by omega)) (by decide) rfl ?_
      try simp (disch := omega) only [mH_t64, mH_r1, mH_r3, mH_r4, mH_r5, mH_r6, mH_r8, mH_r9, mH_r10, mH_r11, mH_r12, mH_r14, mH_i0, mH_i2, mH_i7, mH_i13, mH_i15, mH_t71, mH_t, mH_lr, mH_l65, mH_l69, mH_l70, mH_l71, mH_l72, mH_l73, mH_l74, mH_l75, mH_c, gu_s, gu_n, ea, r1, r2]
      have ks : (if px_k (x.2 (k : Int)) = -1 then (-9999 : Int) else px_k (x.2 (k : Int))) = px_k (x.2 (k : Int)) := if_neg (kc (by omega)).1
      rw [ks]
      refine e_step (pc' := 35) hK rfl rfl rfl ?_
      try simp only [List.set_cons_zero, List.set_cons_succ]
      refine e_step (pc' := 37) hK rfl rfl rfl ?_
      refine e_if (t := 62) (pc' := 40) hK rfl (by omega) (by decide) rfl (fun hb37 => ?_) (fun hb37 => ?_)
      · replace hb37 := cq_eq.1.mp hb37
        have e12 : (px_g P (px_k (x.2 k)) = false) → P.1 < 12 := fun hg => by { have := px_mono (f := x.2) (n := k + 1) (m := x.1) (by omega); have e1 : (px x.2 (k + 1)).1 = P.1 + 1 := by { show (px_add (px x.2 k) (x.2 k) k).1 = _; rw [hP, px_n1, hg]; rfl }; omega }
        have e13 : P.1 < 12 := e12 (px_g0 (by omega))
        refine e_step (pc' := 63) hK rfl rfl rfl ?_
        refine e_getR (ci := 4) (k := 10) (pc' := 66) hK rfl (by simp (disch := omega) only [mH_t64, mH_r1, mH_r3, mH_r4, mH_r5, mH_r6, mH_r8, mH_r9, mH_r10, mH_r11, mH_r12, mH_r14, mH_i0, mH_i2, mH_i7, mH_i13, mH_i15, mH_t71, mH_t, mH_lr, mH_l65, mH_l69, mH_l70, mH_l71, mH_l72, mH_l73, mH_l74, mH_l75, mH_c, gu_s, gu_n, ea, r1, r2]) rfl rfl (by decide) (by decide) (by (try simp (disch := omega) only [mH_t64, mH_r1, mH_r3, mH_r4, mH_r5, mH_r6, mH_r8, mH_r9, mH_r10, mH_r11, mH_r12, mH_r14, mH_i0, mH_i2, mH_i7, mH_i13, mH_i15, mH_t71, mH_t, mH_lr, mH_l65, mH_l69, mH_l70, mH_l71, mH_l72, mH_l73, mH_l74, mH_l75, mH_c, gu_s, gu_n, ea, r1, r2]); omega) rfl ?_
        try simp (disch := omega) only [mH_t64, mH_r1, mH_r3, mH_r4, mH_r5, mH_r6, mH_r8, mH_r9, mH_r10, mH_r11, mH_r12, mH_r14, mH_i0, mH_i2, mH_i7, mH_i13, mH_i15, mH_t71, mH_t, mH_lr, mH_l65, mH_l69, mH_l70, mH_l71, mH_l72, mH_l73, mH_l74, mH_l75, mH_c, gu_s, gu_n, ea, r1, r2]
        refine e_step (pc' := 67) hK rfl rfl rfl ?_
        refine e_step (pc' := 69) hK rfl rfl rfl ?_
        refine e_step (pc' := 70) hK rfl rfl rfl ?_
        refine e_step (pc' := 72) hK rfl rfl rfl ?_
        refine e_step (pc' := 73) hK rfl rfl rfl ?_
        refine e_step (pc' := 74) hK rfl rfl rfl ?_
        refine e_step (pc' := 76) hK rfl rfl rfl ?_
        refine e_step (pc' := 77) hK rfl rfl rfl ?_
        refine e_iast (pc' := 78) hK rfl (by simp (disch := omega) only [mH_t64, mH_r1, mH_r3, mH_r4, mH_r5, mH_r6, mH_r8, mH_r9, mH_r10, mH_r11, mH_r12, mH_r14, mH_i0, mH_i2, mH_i7, mH_i13, mH_i15, mH_t71, mH_t, mH_lr, mH_l65, mH_l69, mH_l70, mH_l71, mH_l72, mH_l73, mH_l74, mH_l75, mH_c, gu_s, gu_n, ea, r1, r2]) (by omega) (by (try simp (disch := omega) only [mH_t64, mH_r1, mH_r3, mH_r4, mH_r5, mH_r6, mH_r8, mH_r9, mH_r10, mH_r11, mH_r12, mH_r14, mH_i0, mH_i2, mH_i7, mH_i13, mH_i15, mH_t71, mH_t, mH_lr, mH_l65, mH_l69, mH_l70, mH_l71, mH_l72, mH_l73, mH_l74, mH_l75, mH_c, gu_s, gu_n, ea, r1, r2]); omega) rfl ?_
        simp (disch := omega) only [mW_0, mW_2, mW_7, mW_13, mW_15, mW_a, gu_s, gu_n]
        refine e_step (pc' := 79) hK rfl rfl rfl ?_
        refine e_getR (ci := 4) (k := 11) (pc' := 82) hK rfl (by simp (disch := omega) only [mH_t64, mH_r1, mH_r3, mH_r4, mH_r5, mH_r6, mH_r8, mH_r9, mH_r10, mH_r11, mH_r12, mH_r14, mH_i0, mH_i2, mH_i7, mH_i13, mH_i15, mH_t71, mH_t, mH_lr, mH_l65, mH_l69, mH_l70, mH_l71, mH_l72, mH_l73, mH_l74, mH_l75, mH_c, gu_s, gu_n, ea, r1, r2]) rfl rfl (by decide) (by decide) (by (try simp (disch := omega) only [mH_t64, mH_r1, mH_r3, mH_r4, mH_r5, mH_r6, mH_r8, mH_r9, mH_r10, mH_r11, mH_r12, mH_r14, mH_i0, mH_i2, mH_i7, mH_i13, mH_i15, mH_t71, mH_t, mH_lr, mH_l65, mH_l69, mH_l70, mH_l71, mH_l72, mH_l73, mH_l74, mH_l75, mH_c, gu_s, gu_n, ea, r1, r2]); omega) rfl ?_
        try simp (disch := omega) only [mH_t64, mH_r1, mH_r3, mH_r4, mH_r5, mH_r6, mH_r8, mH_r9, mH_r10, mH_r11, mH_r12, mH_r14, mH_i0, mH_i2, mH_i7, mH_i13, mH_i15, mH_t71, mH_t, mH_lr, mH_l65, mH_l69, mH_l70, mH_l71, mH_l72, mH_l73, mH_l74, mH_l75, mH_c, gu_s, gu_n, ea, r1, r2]
        refine e_step (pc' := 83) hK rfl rfl rfl ?_
        refine e_step (pc' := 85) hK rfl rfl rfl ?_
        refine e_step (pc' := 86) hK rfl rfl rfl ?_
        refine e_step (pc' := 87) hK rfl rfl rfl ?_
        refine e_iast (pc' := 88) hK rfl (by simp (disch := omega) only [mH_t64, mH_r1, mH_r3, mH_r4, mH_r5, mH_r6, mH_r8, mH_r9, mH_r10, mH_r11, mH_r12, mH_r14, mH_i0, mH_i2, mH_i7, mH_i13, mH_i15, mH_t71, mH_t, mH_lr, mH_l65, mH_l69, mH_l70, mH_l71, mH_l72, mH_l73, mH_l74, mH_l75, mH_c, gu_s, gu_n, ea, r1, r2]) (by omega) (by (try simp (disch := omega) only [mH_t64, mH_r1, mH_r3, mH_r4, mH_r5, mH_r6, mH_r8, mH_r9, mH_r10, mH_r11, mH_r12, mH_r14, mH_i0, mH_i2, mH_i7, mH_i13, mH_i15, mH_t71, mH_t, mH_lr, mH_l65, mH_l69, mH_l70, mH_l71, mH_l72, mH_l73, mH_l74, mH_l75, mH_c, gu_s, gu_n, ea, r1, r2]); omega) rfl ?_
        simp (disch := omega) only [mW_0, mW_2, mW_7, mW_13, mW_15, mW_a, gu_s, gu_n]
        refine e_step (pc' := 89) hK rfl rfl rfl ?_
        refine e_getR (ci := 4) (k := 12) (pc' := 92) hK rfl (by simp (disch := omega) only [mH_t64, mH_r1, mH_r3, mH_r4, mH_r5, mH_r6, mH_r8, mH_r9, mH_r10, mH_r11, mH_r12, mH_r14, mH_i0, mH_i2, mH_i7, mH_i13, mH_i15, mH_t71, mH_t, mH_lr, mH_l65, mH_l69, mH_l70, mH_l71, mH_l72, mH_l73, mH_l74, mH_l75, mH_c, gu_s, gu_n, ea, r1, r2]) rfl rfl (by decide) (by decide) (by (try simp (disch := omega) only [mH_t64, mH_r1, mH_r3, mH_r4, mH_r5, mH_r6, mH_r8, mH_r9, mH_r10, mH_r11, mH_r12, mH_r14, mH_i0, mH_i2, mH_i7, mH_i13, mH_i15, mH_t71, mH_t, mH_lr, mH_l65, mH_l69, mH_l70, mH_l71, mH_l72, mH_l73, mH_l74, mH_l75, mH_c, gu_s, gu_n, ea, r1, r2]); omega) rfl ?_
        try simp (disch := omega) only [mH_t64, mH_r1, mH_r3, mH_r4, mH_r5, mH_r6, mH_r8, mH_r9, mH_r10, mH_r11, mH_r12, mH_r14, mH_i0, mH_i2, mH_i7, mH_i13, mH_i15, mH_t71, mH_t, mH_lr, mH_l65, mH_l69, mH_l70, mH_l71, mH_l72, mH_l73, mH_l74, mH_l75, mH_c, gu_s, gu_n, ea, r1, r2]
        refine e_step (pc' := 93) hK rfl rfl rfl ?_
        refine e_step (pc' := 95) hK rfl rfl rfl ?_
        refine e_step (pc' := 96) hK rfl rfl rfl ?_
        refine e_step (pc' := 98) hK rfl rfl rfl ?_
        refine e_iast (pc' := 99) hK rfl (by simp (disch := omega) only [mH_t64, mH_r1, mH_r3, mH_r4, mH_r5, mH_r6, mH_r8, mH_r9, mH_r10, mH_r11, mH_r12, mH_r14, mH_i0, mH_i2, mH_i7, mH_i13, mH_i15, mH_t71, mH_t, mH_lr, mH_l65, mH_l69, mH_l70, mH_l71, mH_l72, mH_l73, mH_l74, mH_l75, mH_c, gu_s, gu_n, ea, r1, r2]) (by omega) (by (try simp (disch := omega) only [mH_t64, mH_r1, mH_r3, mH_r4, mH_r5, mH_r6, mH_r8, mH_r9, mH_r10, mH_r11, mH_r12, mH_r14, mH_i0, mH_i2, mH_i7, mH_i13, mH_i15, mH_t71, mH_t, mH_lr, mH_l65, mH_l69, mH_l70, mH_l71, mH_l72, mH_l73, mH_l74, mH_l75, mH_c, gu_s, gu_n, ea, r1, r2]); omega) rfl ?_
        simp (disch := omega) only [mW_0, mW_2, mW_7, mW_13, mW_15, mW_a, gu_s, gu_n]
        refine e_step (pc' := 102) hK rfl rfl rfl ?_
        try simp only [List.set_cons_zero, List.set_cons_succ]
        refine e_step (pc' := 103) hK rfl rfl rfl ?_
        refine e_getR (ci := 4) (k := 11) (pc' := 106) hK rfl (by simp (disch := omega) only [mH_t64, mH_r1, mH_r3, mH_r4, mH_r5, mH_r6, mH_r8, mH_r9, mH_r10, mH_r11, mH_r12, mH_r14, mH_i0, mH_i2, mH_i7, mH_i13, mH_i15, mH_t71, mH_t, mH_lr, mH_l65, mH_l69, mH_l70, mH_l71, mH_l72, mH_l73, mH_l74, mH_l75, mH_c, gu_s, gu_n, ea, r1, r2]) rfl rfl (by decide) (by decide) (by (try simp (disch := omega) only [mH_t64, mH_r1, mH_r3, mH_r4, mH_r5, mH_r6, mH_r8, mH_r9, mH_r10, mH_r11, mH_r12, mH_r14, mH_i0, mH_i2, mH_i7, mH_i13, mH_i15, mH_t71, mH_t, mH_lr, mH_l65, mH_l69, mH_l70, mH_l71, mH_l72, mH_l73, mH_l74, mH_l75, mH_c, gu_s, gu_n, ea, r1, r2]); omega) rfl ?_
        try simp (disch := omega) only [mH_t64, mH_r1, mH_r3, mH_r4, mH_r5, mH_r6, mH_r8, mH_r9, mH_r10, mH_r11, mH_r12, mH_r14, mH_i0, mH_i2, mH_i7, mH_i13, mH_i15, mH_t71, mH_t, mH_lr, mH_l65, mH_l69, mH_l70, mH_l71, mH_l72, mH_l73, mH_l74, mH_l75, mH_c, gu_s, gu_n, ea, r1, r2]
        refine e_step (pc' := 107) hK rfl rfl rfl ?_
        refine e_step (pc' := 109) hK rfl rfl rfl ?_
        refine e_step (pc' := 110) hK rfl rfl rfl ?_
        refine e_step (pc' := 111) hK rfl rfl rfl ?_
        refine e_step (pc' := 112) hK rfl rfl rfl ?_
        refine e_step (pc' := 113) hK rfl rfl rfl ?_
        refine e_iald (pc' := 114) hK rfl (by simp (disch := omega) only [mH_t64, mH_r1, mH_r3, mH_r4, mH_r5, mH_r6, mH_r8, mH_r9, mH_r10, mH_r11, mH_r12, mH_r14, mH_i0, mH_i2, mH_i7, mH_i13, mH_i15, mH_t71, mH_t, mH_lr, mH_l65, mH_l69, mH_l70, mH_l71, mH_l72, mH_l73, mH_l74, mH_l75, mH_c, gu_s, gu_n, ea, r1, r2]) (by omega) (by (try simp (disch := omega) only [mH_t64, mH_r1, mH_r3, mH_r4, mH_r5, mH_r6, mH_r8, mH_r9, mH_r10, mH_r11, mH_r12, mH_r14, mH_i0, mH_i2, mH_i7, mH_i13, mH_i15, mH_t71, mH_t, mH_lr, mH_l65, mH_l69, mH_l70, mH_l71, mH_l72, mH_l73, mH_l74, mH_l75, mH_c, gu_s, gu_n, ea, r1, r2]); omega) rfl ?_
        try simp (disch := omega) only [mH_t64, mH_r1, mH_r3, mH_r4, mH_r5, mH_r6, mH_r8, mH_r9, mH_r10, mH_r11, mH_r12, mH_r14, mH_i0, mH_i2, mH_i7, mH_i13, mH_i15, mH_t71, mH_t, mH_lr, mH_l65, mH_l69, mH_l70, mH_l71, mH_l72, mH_l73, mH_l74, mH_l75, mH_c, gu_s, gu_n, ea, r1, r2]
        refine e_step (pc' := 115) hK rfl rfl rfl ?_
        refine e_step (pc' := 116) hK rfl rfl rfl ?_
        refine e_iast (pc' := 117) hK rfl (by simp (disch := omega) only [mH_t64, mH_r1, mH_r3, mH_r4, mH_r5, mH_r6, mH_r8, mH_r9, mH_r10, mH_r11, mH_r12, mH_r14, mH_i0, mH_i2, mH_i7, mH_i13, mH_i15, mH_t71, mH_t, mH_lr, mH_l65, mH_l69, mH_l70, mH_l71, mH_l72, mH_l73, mH_l74, mH_l75, mH_c, gu_s, gu_n, ea, r1, r2]) (by omega) (by (try simp (disch := omega) only [mH_t64, mH_r1, mH_r3, mH_r4, mH_r5, mH_r6, mH_r8, mH_r9, mH_r10, mH_r11, mH_r12, mH_r14, mH_i0, mH_i2, mH_i7, mH_i13, mH_i15, mH_t71, mH_t, mH_lr, mH_l65, mH_l69, mH_l70, mH_l71, mH_l72, mH_l73, mH_l74, mH_l75, mH_c, gu_s, gu_n, ea, r1, r2]); omega) rfl ?_
        simp (disch := omega) only [mW_0, mW_2, mW_7, mW_13, mW_15, mW_a, gu_s, gu_n]
        refine e_step (pc' := 120) hK rfl rfl rfl ?_
        try simp only [List.set_cons_zero, List.set_cons_succ]
        refine e_goto (t := 12) hK rfl (by decide) ?_
        have hg : px_g P (px_k (x.2 k)) = false := px_g0 (by omega)
        have e1 : (px x.2 (k + 1)).1 = P.1 + 1 := by { show (px_add (px x.2 k) (x.2 k) k).1 = _; rw [hP, px_n1, hg]; rfl }
        have e12 : P.1 < 12 := by { have := px_mono (f := x.2) (n := k + 1) (m := x.1) (by omega); omega }
        rw [show (P.1 + 1 : Int) = (px x.2 (k + 1)).1 from e1.symm]
        refine ih (k + 1) _ _ ⟨by omega, ?_, ?_⟩
        · show Ct _ _ _ (px_add (px x.2 k) (x.2 k) k)
          rw [hP]
          rw [e1]
          exact cut_n hc hg (fun q => by { simp (disch := omega) only [gu_n, gu_s] }) (fun q => by { simp (disch := omega) only [gu_n, gu_s, mv_up]; (repeat' split) <;> omega }) (fun q => by { simp (disch := omega) only [gu_n, gu_s] })
        · refine ⟨fun b a1 a2 a3 => by { show _ = v b; rw [← hf.1 b a1 a2 a3]; simp (disch := omega) only [gu_n] }, fun b q hq => by { rw [← hf.2 b q hq]; by_cases e2 : b = 272; { subst e2; simp (disch := omega) only [gu_s, gu_n, up_n] }; by_cases e3 : b = 273; { subst e3; simp (disch := omega) only [gu_s, gu_n, up_n] }; by_cases e4 : b = 274; { subst e4; simp (disch := omega) only [gu_s, gu_n, up_n] }; simp (disch := omega) only [gu_n] }⟩
      · replace hb37 := cq_eq.2.mp hb37
        refine e_step (pc' := 42) hK rfl rfl rfl ?_
        refine e_step (pc' := 43) hK rfl rfl rfl ?_
        refine e_icmp (t := 62) (pc' := 46) hK rfl (by omega) (by omega) (by decide) rfl (fun hb43 => ?_) (fun hb43 => ?_)
        · replace hb43 := cq_eq.1.mp hb43
          have e12 : (px_g P (px_k (x.2 k)) = false) → P.1 < 12 := fun hg => by { have := px_mono (f := x.2) (n := k + 1) (m := x.1) (by omega); have e1 : (px x.2 (k + 1)).1 = P.1 + 1 := by { show (px_add (px x.2 k) (x.2 k) k).1 = _; rw [hP, px_n1, hg]; rfl }; omega }
          have e13 : P.1 < 12 := e12 (px_g0 (by omega))
          refine e_step (pc' := 63) hK rfl rfl rfl ?_
          refine e_getR (ci := 4) (k := 10) (pc' := 66) hK rfl (by simp (disch := omega) only [mH_t64, mH_r1, mH_r3, mH_r4, mH_r5, mH_r6, mH_r8, mH_r9, mH_r10, mH_r11, mH_r12, mH_r14, mH_i0, mH_i2, mH_i7, mH_i13, mH_i15, mH_t71, mH_t, mH_lr, mH_l65, mH_l69, mH_l70, mH_l71, mH_l72, mH_l73, mH_l74, mH_l75, mH_c, gu_s, gu_n, ea, r1, r2]) rfl rfl (by decide) (by decide) (by (try simp (disch := omega) only [mH_t64, mH_r1, mH_r3, mH_r4, mH_r5, mH_r6, mH_r8, mH_r9, mH_r10, mH_r11, mH_r12, mH_r14, mH_i0, mH_i2, mH_i7, mH_i13, mH_i15, mH_t71, mH_t, mH_lr, mH_l65, mH_l69, mH_l70, mH_l71, mH_l72, mH_l73, mH_l74, mH_l75, mH_c, gu_s, gu_n, ea, r1, r2]); omega) rfl ?_
          try simp (disch := omega) only [mH_t64, mH_r1, mH_r3, mH_r4, mH_r5, mH_r6, mH_r8, mH_r9, mH_r10, mH_r11, mH_r12, mH_r14, mH_i0, mH_i2, mH_i7, mH_i13, mH_i15, mH_t71, mH_t, mH_lr, mH_l65, mH_l69, mH_l70, mH_l71, mH_l72, mH_l73, mH_l74, mH_l75, mH_c, gu_s, gu_n, ea, r1, r2]
          refine e_step (pc' := 67) hK rfl rfl rfl ?_
          refine e_step (pc' := 69) hK rfl rfl rfl ?_
          refine e_step (pc' := 70) hK rfl rfl rfl ?_
          refine e_step (pc' := 72) hK rfl rfl rfl ?_
          refine e_step (pc' := 73) hK rfl rfl rfl ?_
          refine e_step (pc' := 74) hK rfl rfl rfl ?_
          refine e_step (pc' := 76) hK rfl rfl rfl ?_
          refine e_step (pc' := 77) hK rfl rfl rfl ?_
          refine e_iast (pc' := 78) hK rfl (by simp (disch := omega) only [mH_t64, mH_r1, mH_r3, mH_r4, mH_r5, mH_r6, mH_r8, mH_r9, mH_r10, mH_r11, mH_r12, mH_r14, mH_i0, mH_i2, mH_i7, mH_i13, mH_i15, mH_t71, mH_t, mH_lr, mH_l65, mH_l69, mH_l70, mH_l71, mH_l72, mH_l73, mH_l74, mH_l75, mH_c, gu_s, gu_n, ea, r1, r2]) (by omega) (by (try simp (disch := omega) only [mH_t64, mH_r1, mH_r3, mH_r4, mH_r5, mH_r6, mH_r8, mH_r9, mH_r10, mH_r11, mH_r12, mH_r14, mH_i0, mH_i2, mH_i7, mH_i13, mH_i15, mH_t71, mH_t, mH_lr, mH_l65, mH_l69, mH_l70, mH_l71, mH_l72, mH_l73, mH_l74, mH_l75, mH_c, gu_s, gu_n, ea, r1, r2]); omega) rfl ?_
          simp (disch := omega) only [mW_0, mW_2, mW_7, mW_13, mW_15, mW_a, gu_s, gu_n]
          refine e_step (pc' := 79) hK rfl rfl rfl ?_
          refine e_getR (ci := 4) (k := 11) (pc' := 82) hK rfl (by simp (disch := omega) only [mH_t64, mH_r1, mH_r3, mH_r4, mH_r5, mH_r6, mH_r8, mH_r9, mH_r10, mH_r11, mH_r12, mH_r14, mH_i0, mH_i2, mH_i7, mH_i13, mH_i15, mH_t71, mH_t, mH_lr, mH_l65, mH_l69, mH_l70, mH_l71, mH_l72, mH_l73, mH_l74, mH_l75, mH_c, gu_s, gu_n, ea, r1, r2]) rfl rfl (by decide) (by decide) (by (try simp (disch := omega) only [mH_t64, mH_r1, mH_r3, mH_r4, mH_r5, mH_r6, mH_r8, mH_r9, mH_r10, mH_r11, mH_r12, mH_r14, mH_i0, mH_i2, mH_i7, mH_i13, mH_i15, mH_t71, mH_t, mH_lr, mH_l65, mH_l69, mH_l70, mH_l71, mH_l72, mH_l73, mH_l74, mH_l75, mH_c, gu_s, gu_n, ea, r1, r2]); omega) rfl ?_
          try simp (disch := omega) only [mH_t64, mH_r1, mH_r3, mH_r4, mH_r5, mH_r6, mH_r8, mH_r9, mH_r10, mH_r11, mH_r12, mH_r14, mH_i0, mH_i2, mH_i7, mH_i13, mH_i15, mH_t71, mH_t, mH_lr, mH_l65, mH_l69, mH_l70, mH_l71, mH_l72, mH_l73, mH_l74, mH_l75, mH_c, gu_s, gu_n, ea, r1, r2]
          refine e_step (pc' := 83) hK rfl rfl rfl ?_
          refine e_step (pc' := 85) hK rfl rfl rfl ?_
          refine e_step (pc' := 86) hK rfl rfl rfl ?_
          refine e_step (pc' := 87) hK rfl rfl rfl ?_
          refine e_iast (pc' := 88) hK rfl (by simp (disch := omega) only [mH_t64, mH_r1, mH_r3, mH_r4, mH_r5, mH_r6, mH_r8, mH_r9, mH_r10, mH_r11, mH_r12, mH_r14, mH_i0, mH_i2, mH_i7, mH_i13, mH_i15, mH_t71, mH_t, mH_lr, mH_l65, mH_l69, mH_l70, mH_l71, mH_l72, mH_l73, mH_l74, mH_l75, mH_c, gu_s, gu_n, ea, r1, r2]) (by omega) (by (try simp (disch := omega) only [mH_t64, mH_r1, mH_r3, mH_r4, mH_r5, mH_r6, mH_r8, mH_r9, mH_r10, mH_r11, mH_r12, mH_r14, mH_i0, mH_i2, mH_i7, mH_i13, mH_i15, mH_t71, mH_t, mH_lr, mH_l65, mH_l69, mH_l70, mH_l71, mH_l72, mH_l73, mH_l74, mH_l75, mH_c, gu_s, gu_n, ea, r1, r2]); omega) rfl ?_
          simp (disch := omega) only [mW_0, mW_2, mW_7, mW_13, mW_15, mW_a, gu_s, gu_n]
          refine e_step (pc' := 89) hK rfl rfl rfl ?_
          refine e_getR (ci := 4) (k := 12) (pc' := 92) hK rfl (by simp (disch := omega) only [mH_t64, mH_r1, mH_r3, mH_r4, mH_r5, mH_r6, mH_r8, mH_r9, mH_r10, mH_r11, mH_r12, mH_r14, mH_i0, mH_i2, mH_i7, mH_i13, mH_i15, mH_t71, mH_t, mH_lr, mH_l65, mH_l69, mH_l70, mH_l71, mH_l72, mH_l73, mH_l74, mH_l75, mH_c, gu_s, gu_n, ea, r1, r2]) rfl rfl (by decide) (by decide) (by (try simp (disch := omega) only [mH_t64, mH_r1, mH_r3, mH_r4, mH_r5, mH_r6, mH_r8, mH_r9, mH_r10, mH_r11, mH_r12, mH_r14, mH_i0, mH_i2, mH_i7, mH_i13, mH_i15, mH_t71, mH_t, mH_lr, mH_l65, mH_l69, mH_l70, mH_l71, mH_l72, mH_l73, mH_l74, mH_l75, mH_c, gu_s, gu_n, ea, r1, r2]); omega) rfl ?_
          try simp (disch := omega) only [mH_t64, mH_r1, mH_r3, mH_r4, mH_r5, mH_r6, mH_r8, mH_r9, mH_r10, mH_r11, mH_r12, mH_r14, mH_i0, mH_i2, mH_i7, mH_i13, mH_i15, mH_t71, mH_t, mH_lr, mH_l65, mH_l69, mH_l70, mH_l71, mH_l72, mH_l73, mH_l74, mH_l75, mH_c, gu_s, gu_n, ea, r1, r2]
          refine e_step (pc' := 93) hK rfl rfl rfl ?_
          refine e_step (pc' := 95) hK rfl rfl rfl ?_
          refine e_step (pc' := 96) hK rfl rfl rfl ?_
          refine e_step (pc' := 98) hK rfl rfl rfl ?_
          refine e_iast (pc' := 99) hK rfl (by simp (disch := omega) only [mH_t64, mH_r1, mH_r3, mH_r4, mH_r5, mH_r6, mH_r8, mH_r9, mH_r10, mH_r11, mH_r12, mH_r14, mH_i0, mH_i2, mH_i7, mH_i13, mH_i15, mH_t71, mH_t, mH_lr, mH_l65, mH_l69, mH_l70, mH_l71, mH_l72, mH_l73, mH_l74, mH_l75, mH_c, gu_s, gu_n, ea, r1, r2]) (by omega) (by (try simp (disch := omega) only [mH_t64, mH_r1, mH_r3, mH_r4, mH_r5, mH_r6, mH_r8, mH_r9, mH_r10, mH_r11, mH_r12, mH_r14, mH_i0, mH_i2, mH_i7, mH_i13, mH_i15, mH_t71, mH_t, mH_lr, mH_l65, mH_l69, mH_l70, mH_l71, mH_l72, mH_l73, mH_l74, mH_l75, mH_c, gu_s, gu_n, ea, r1, r2]); omega) rfl ?_
          simp (disch := omega) only [mW_0, mW_2, mW_7, mW_13, mW_15, mW_a, gu_s, gu_n]
          refine e_step (pc' := 102) hK rfl rfl rfl ?_
          try simp only [List.set_cons_zero, List.set_cons_succ]
          refine e_step (pc' := 103) hK rfl rfl rfl ?_
          refine e_getR (ci := 4) (k := 11) (pc' := 106) hK rfl (by simp (disch := omega) only [mH_t64, mH_r1, mH_r3, mH_r4, mH_r5, mH_r6, mH_r8, mH_r9, mH_r10, mH_r11, mH_r12, mH_r14, mH_i0, mH_i2, mH_i7, mH_i13, mH_i15, mH_t71, mH_t, mH_lr, mH_l65, mH_l69, mH_l70, mH_l71, mH_l72, mH_l73, mH_l74, mH_l75, mH_c, gu_s, gu_n, ea, r1, r2]) rfl rfl (by decide) (by decide) (by (try simp (disch := omega) only [mH_t64, mH_r1, mH_r3, mH_r4, mH_r5, mH_r6, mH_r8, mH_r9, mH_r10, mH_r11, mH_r12, mH_r14, mH_i0, mH_i2, mH_i7, mH_i13, mH_i15, mH_t71, mH_t, mH_lr, mH_l65, mH_l69, mH_l70, mH_l71, mH_l72, mH_l73, mH_l74, mH_l75, mH_c, gu_s, gu_n, ea, r1, r2]); omega) rfl ?_
          try simp (disch := omega) only [mH_t64, mH_r1, mH_r3, mH_r4, mH_r5, mH_r6, mH_r8, mH_r9, mH_r10, mH_r11, mH_r12, mH_r14, mH_i0, mH_i2, mH_i7, mH_i13, mH_i15, mH_t71, mH_t, mH_lr, mH_l65, mH_l69, mH_l70, mH_l71, mH_l72, mH_l73, mH_l74, mH_l75, mH_c, gu_s, gu_n, ea, r1, r2]
          refine e_step (pc' := 107) hK rfl rfl rfl ?_
          refine e_step (pc' := 109) hK rfl rfl rfl ?_
          refine e_step (pc' := 110) hK rfl rfl rfl ?_
          refine e_step (pc' := 111) hK rfl rfl rfl ?_
          refine e_step (pc' := 112) hK rfl rfl rfl ?_
          refine e_step (pc' := 113) hK rfl rfl rfl ?_
          refine e_iald (pc' := 114) hK rfl (by simp (disch := omega) only [mH_t64, mH_r1, mH_r3, mH_r4, mH_r5, mH_r6, mH_r8, mH_r9, mH_r10, mH_r11, mH_r12, mH_r14, mH_i0, mH_i2, mH_i7, mH_i13, mH_i15, mH_t71, mH_t, mH_lr, mH_l65, mH_l69, mH_l70, mH_l71, mH_l72, mH_l73, mH_l74, mH_l75, mH_c, gu_s, gu_n, ea, r1, r2]) (by omega) (by (try simp (disch := omega) only [mH_t64, mH_r1, mH_r3, mH_r4, mH_r5, mH_r6, mH_r8, mH_r9, mH_r10, mH_r11, mH_r12, mH_r14, mH_i0, mH_i2, mH_i7, mH_i13, mH_i15, mH_t71, mH_t, mH_lr, mH_l65, mH_l69, mH_l70, mH_l71, mH_l72, mH_l73, mH_l74, mH_l75, mH_c, gu_s, gu_n, ea, r1, r2]); omega) rfl ?_
          try simp (disch := omega) only [mH_t64, mH_r1, mH_r3, mH_r4, mH_r5, mH_r6, mH_r8, mH_r9, mH_r10, mH_r11, mH_r12, mH_r14, mH_i0, mH_i2, mH_i7, mH_i13, mH_i15, mH_t71, mH_t, mH_lr, mH_l65, mH_l69, mH_l70, mH_l71, mH_l72, mH_l73, mH_l74, mH_l75, mH_c, gu_s, gu_n, ea, r1, r2]
          refine e_step (pc' := 115) hK rfl rfl rfl ?_
          refine e_step (pc' := 116) hK rfl rfl rfl ?_
          refine e_iast (pc' := 117) hK rfl (by simp (disch := omega) only [mH_t64, mH_r1, mH_r3, mH_r4, mH_r5, mH_r6, mH_r8, mH_r9, mH_r10, mH_r11, mH_r12, mH_r14, mH_i0, mH_i2, mH_i7, mH_i13, mH_i15, mH_t71, mH_t, mH_lr, mH_l65, mH_l69, mH_l70, mH_l71, mH_l72, mH_l73, mH_l74, mH_l75, mH_c, gu_s, gu_n, ea, r1, r2]) (by omega) (by (try simp (disch := omega) only [mH_t64, mH_r1, mH_r3, mH_r4, mH_r5, mH_r6, mH_r8, mH_r9, mH_r10, mH_r11, mH_r12, mH_r14, mH_i0, mH_i2, mH_i7, mH_i13, mH_i15, mH_t71, mH_t, mH_lr, mH_l65, mH_l69, mH_l70, mH_l71, mH_l72, mH_l73, mH_l74, mH_l75, mH_c, gu_s, gu_n, ea, r1, r2]); omega) rfl ?_
          simp (disch := omega) only [mW_0, mW_2, mW_7, mW_13, mW_15, mW_a, gu_s, gu_n]
          refine e_step (pc' := 120) hK rfl rfl rfl ?_
          try simp only [List.set_cons_zero, List.set_cons_succ]
          refine e_goto (t := 12) hK rfl (by decide) ?_
          have hg : px_g P (px_k (x.2 k)) = false := px_g0 (by omega)
          have e1 : (px x.2 (k + 1)).1 = P.1 + 1 := by { show (px_add (px x.2 k) (x.2 k) k).1 = _; rw [hP, px_n1, hg]; rfl }
          have e12 : P.1 < 12 := by { have := px_mono (f := x.2) (n := k + 1) (m := x.1) (by omega); omega }
          rw [show (P.1 + 1 : Int) = (px x.2 (k + 1)).1 from e1.symm]
          refine ih (k + 1) _ _ ⟨by omega, ?_, ?_⟩
          · show Ct _ _ _ (px_add (px x.2 k) (x.2 k) k)
            rw [hP]
            rw [e1]
            exact cut_n hc hg (fun q => by { simp (disch := omega) only [gu_n, gu_s] }) (fun q => by { simp (disch := omega) only [gu_n, gu_s, mv_up]; (repeat' split) <;> omega }) (fun q => by { simp (disch := omega) only [gu_n, gu_s] })
          · refine ⟨fun b a1 a2 a3 => by { show _ = v b; rw [← hf.1 b a1 a2 a3]; simp (disch := omega) only [gu_n] }, fun b q hq => by { rw [← hf.2 b q hq]; by_cases e2 : b = 272; { subst e2; simp (disch := omega) only [gu_s, gu_n, up_n] }; by_cases e3 : b = 273; { subst e3; simp (disch := omega) only [gu_s, gu_n, up_n] }; by_cases e4 : b = 274; { subst e4; simp (disch := omega) only [gu_s, gu_n, up_n] }; simp (disch := omega) only [gu_n] }⟩
        · replace hb43 := cq_eq.2.mp hb43
          refine e_step (pc' := 48) hK rfl rfl rfl ?_
          refine e_step (pc' := 49) hK rfl rfl rfl ?_
          refine e_getR (ci := 4) (k := 12) (pc' := 52) hK rfl (by simp (disch := omega) only [mH_t64, mH_r1, mH_r3, mH_r4, mH_r5, mH_r6, mH_r8, mH_r9, mH_r10, mH_r11, mH_r12, mH_r14, mH_i0, mH_i2, mH_i7, mH_i13, mH_i15, mH_t71, mH_t, mH_lr, mH_l65, mH_l69, mH_l70, mH_l71, mH_l72, mH_l73, mH_l74, mH_l75, mH_c, gu_s, gu_n, ea, r1, r2]) rfl rfl (by decide) (by decide) (by (try simp (disch := omega) only [mH_t64, mH_r1, mH_r3, mH_r4, mH_r5, mH_r6, mH_r8, mH_r9, mH_r10, mH_r11, mH_r12, mH_r14, mH_i0, mH_i2, mH_i7, mH_i13, mH_i15, mH_t71, mH_t, mH_lr, mH_l65, mH_l69, mH_l70, mH_l71, mH_l72, mH_l73, mH_l74, mH_l75, mH_c, gu_s, gu_n, ea, r1, r2]); omega) rfl ?_
          try simp (disch := omega) only [mH_t64, mH_r1, mH_r3, mH_r4, mH_r5, mH_r6, mH_r8, mH_r9, mH_r10, mH_r11, mH_r12, mH_r14, mH_i0, mH_i2, mH_i7, mH_i13, mH_i15, mH_t71, mH_t, mH_lr, mH_l65, mH_l69, mH_l70, mH_l71, mH_l72, mH_l73, mH_l74, mH_l75, mH_c, gu_s, gu_n, ea, r1, r2]
          refine e_step (pc' := 53) hK rfl rfl rfl ?_
          refine e_step (pc' := 55) hK rfl rfl rfl ?_
          refine e_step (pc' := 56) hK rfl rfl rfl ?_
          refine e_step (pc' := 57) hK rfl rfl rfl ?_
          refine e_step (pc' := 58) hK rfl rfl rfl ?_
          refine e_iald (pc' := 59) hK rfl (by simp (disch := omega) only [mH_t64, mH_r1, mH_r3, mH_r4, mH_r5, mH_r6, mH_r8, mH_r9, mH_r10, mH_r11, mH_r12, mH_r14, mH_i0, mH_i2, mH_i7, mH_i13, mH_i15, mH_t71, mH_t, mH_lr, mH_l65, mH_l69, mH_l70, mH_l71, mH_l72, mH_l73, mH_l74, mH_l75, mH_c, gu_s, gu_n, ea, r1, r2]) (by omega) (by (try simp (disch := omega) only [mH_t64, mH_r1, mH_r3, mH_r4, mH_r5, mH_r6, mH_r8, mH_r9, mH_r10, mH_r11, mH_r12, mH_r14, mH_i0, mH_i2, mH_i7, mH_i13, mH_i15, mH_t71, mH_t, mH_lr, mH_l65, mH_l69, mH_l70, mH_l71, mH_l72, mH_l73, mH_l74, mH_l75, mH_c, gu_s, gu_n, ea, r1, r2]); omega) rfl ?_
          try simp (disch := omega) only [mH_t64, mH_r1, mH_r3, mH_r4, mH_r5, mH_r6, mH_r8, mH_r9, mH_r10, mH_r11, mH_r12, mH_r14, mH_i0, mH_i2, mH_i7, mH_i13, mH_i15, mH_t71, mH_t, mH_lr, mH_l65, mH_l69, mH_l70, mH_l71, mH_l72, mH_l73, mH_l74, mH_l75, mH_c, gu_s, gu_n, ea, r1, r2]
          refine e_icmp (t := 102) (pc' := 62) hK rfl (by omega) (by omega) (by decide) rfl (fun hb59 => ?_) (fun hb59 => ?_)
          · replace hb59 := cq_eq.1.mp hb59
            refine e_step (pc' := 103) hK rfl rfl rfl ?_
            refine e_getR (ci := 4) (k := 11) (pc' := 106) hK rfl (by simp (disch := omega) only [mH_t64, mH_r1, mH_r3, mH_r4, mH_r5, mH_r6, mH_r8, mH_r9, mH_r10, mH_r11, mH_r12, mH_r14, mH_i0, mH_i2, mH_i7, mH_i13, mH_i15, mH_t71, mH_t, mH_lr, mH_l65, mH_l69, mH_l70, mH_l71, mH_l72, mH_l73, mH_l74, mH_l75, mH_c, gu_s, gu_n, ea, r1, r2]) rfl rfl (by decide) (by decide) (by (try simp (disch := omega) only [mH_t64, mH_r1, mH_r3, mH_r4, mH_r5, mH_r6, mH_r8, mH_r9, mH_r10, mH_r11, mH_r12, mH_r14, mH_i0, mH_i2, mH_i7, mH_i13, mH_i15, mH_t71, mH_t, mH_lr, mH_l65, mH_l69, mH_l70, mH_l71, mH_l72, mH_l73, mH_l74, mH_l75, mH_c, gu_s, gu_n, ea, r1, r2]); omega) rfl ?_
            try simp (disch := omega) only [mH_t64, mH_r1, mH_r3, mH_r4, mH_r5, mH_r6, mH_r8, mH_r9, mH_r10, mH_r11, mH_r12, mH_r14, mH_i0, mH_i2, mH_i7, mH_i13, mH_i15, mH_t71, mH_t, mH_lr, mH_l65, mH_l69, mH_l70, mH_l71, mH_l72, mH_l73, mH_l74, mH_l75, mH_c, gu_s, gu_n, ea, r1, r2]
            refine e_step (pc' := 107) hK rfl rfl rfl ?_
            refine e_step (pc' := 109) hK rfl rfl rfl ?_
            refine e_step (pc' := 110) hK rfl rfl rfl ?_
            refine e_step (pc' := 111) hK rfl rfl rfl ?_
            refine e_step (pc' := 112) hK rfl rfl rfl ?_
            refine e_step (pc' := 113) hK rfl rfl rfl ?_
            refine e_iald (pc' := 114) hK rfl (by simp (disch := omega) only [mH_t64, mH_r1, mH_r3, mH_r4, mH_r5, mH_r6, mH_r8, mH_r9, mH_r10, mH_r11, mH_r12, mH_r14, mH_i0, mH_i2, mH_i7, mH_i13, mH_i15, mH_t71, mH_t, mH_lr, mH_l65, mH_l69, mH_l70, mH_l71, mH_l72, mH_l73, mH_l74, mH_l75, mH_c, gu_s, gu_n, ea, r1, r2]) (by omega) (by (try simp (disch := omega) only [mH_t64, mH_r1, mH_r3, mH_r4, mH_r5, mH_r6, mH_r8, mH_r9, mH_r10, mH_r11, mH_r12, mH_r14, mH_i0, mH_i2, mH_i7, mH_i13, mH_i15, mH_t71, mH_t, mH_lr, mH_l65, mH_l69, mH_l70, mH_l71, mH_l72, mH_l73, mH_l74, mH_l75, mH_c, gu_s, gu_n, ea, r1, r2]); omega) rfl ?_
            try simp (disch := omega) only [mH_t64, mH_r1, mH_r3, mH_r4, mH_r5, mH_r6, mH_r8, mH_r9, mH_r10, mH_r11, mH_r12, mH_r14, mH_i0, mH_i2, mH_i7, mH_i13, mH_i15, mH_t71, mH_t, mH_lr, mH_l65, mH_l69, mH_l70, mH_l71, mH_l72, mH_l73, mH_l74, mH_l75, mH_c, gu_s, gu_n, ea, r1, r2]
            refine e_step (pc' := 115) hK rfl rfl rfl ?_
            refine e_step (pc' := 116) hK rfl rfl rfl ?_
            refine e_iast (pc' := 117) hK rfl (by simp (disch := omega) only [mH_t64, mH_r1, mH_r3, mH_r4, mH_r5, mH_r6, mH_r8, mH_r9, mH_r10, mH_r11, mH_r12, mH_r14, mH_i0, mH_i2, mH_i7, mH_i13, mH_i15, mH_t71, mH_t, mH_lr, mH_l65, mH_l69, mH_l70, mH_l71, mH_l72, mH_l73, mH_l74, mH_l75, mH_c, gu_s, gu_n, ea, r1, r2]) (by omega) (by (try simp (disch := omega) only [mH_t64, mH_r1, mH_r3, mH_r4, mH_r5, mH_r6, mH_r8, mH_r9, mH_r10, mH_r11, mH_r12, mH_r14, mH_i0, mH_i2, mH_i7, mH_i13, mH_i15, mH_t71, mH_t, mH_lr, mH_l65, mH_l69, mH_l70, mH_l71, mH_l72, mH_l73, mH_l74, mH_l75, mH_c, gu_s, gu_n, ea, r1, r2]); omega) rfl ?_
            simp (disch := omega) only [mW_0, mW_2, mW_7, mW_13, mW_15, mW_a, gu_s, gu_n]
            refine e_step (pc' := 120) hK rfl rfl rfl ?_
            try simp only [List.set_cons_zero, List.set_cons_succ]
            refine e_goto (t := 12) hK rfl (by decide) ?_
            have hg : px_g P (px_k (x.2 k)) = true := by
              unfold px_g
              simp only [Bool.and_eq_true, decide_eq_true_eq]
              omega
            have e1 : (px x.2 (k + 1)).1 = P.1 := by { show (px_add (px x.2 k) (x.2 k) k).1 = _; rw [hP, px_n1, if_pos hg] }
            rw [show (P.1 : Int) = (px x.2 (k + 1)).1 from e1.symm]
            refine ih (k + 1) _ _ ⟨by omega, ?_, ?_⟩
            · show Ct _ _ _ (px_add (px x.2 k) (x.2 k) k)
              rw [hP]
              rw [e1]
              exact cut_g hc hg (by simp (disch := omega) only [gu_n]) (fun q => by simp (disch := omega) only [gu_s]) (by simp (disch := omega) only [gu_n])
            · refine ⟨fun b a1 a2 a3 => by { show _ = v b; rw [← hf.1 b a1 a2 a3]; simp (disch := omega) only [gu_n] }, fun b q hq => by { rw [← hf.2 b q hq]; by_cases e2 : b = 272; { subst e2; simp (disch := omega) only [gu_s, gu_n, up_n] }; by_cases e3 : b = 273; { subst e3; simp (disch := omega) only [gu_s, gu_n, up_n] }; by_cases e4 : b = 274; { subst e4; simp (disch := omega) only [gu_s, gu_n, up_n] }; simp (disch := omega) only [gu_n] }⟩
          · replace hb59 := cq_eq.2.mp hb59
            have e12 : (px_g P (px_k (x.2 k)) = false) → P.1 < 12 := fun hg => by { have := px_mono (f := x.2) (n := k + 1) (m := x.1) (by omega); have e1 : (px x.2 (k + 1)).1 = P.1 + 1 := by { show (px_add (px x.2 k) (x.2 k) k).1 = _; rw [hP, px_n1, hg]; rfl }; omega }
            have e13 : P.1 < 12 := e12 (px_g0 (by omega))
            refine e_step (pc' := 63) hK rfl rfl rfl ?_
            refine e_getR (ci := 4) (k := 10) (pc' := 66) hK rfl (by simp (disch := omega) only [mH_t64, mH_r1, mH_r3, mH_r4, mH_r5, mH_r6, mH_r8, mH_r9, mH_r10, mH_r11, mH_r12, mH_r14, mH_i0, mH_i2, mH_i7, mH_i13, mH_i15, mH_t71, mH_t, mH_lr, mH_l65, mH_l69, mH_l70, mH_l71, mH_l72, mH_l73, mH_l74, mH_l75, mH_c, gu_s, gu_n, ea, r1, r2]) rfl rfl (by decide) (by decide) (by (try simp (disch := omega) only [mH_t64, mH_r1, mH_r3, mH_r4, mH_r5, mH_r6, mH_r8, mH_r9, mH_r10, mH_r11, mH_r12, mH_r14, mH_i0, mH_i2, mH_i7, mH_i13, mH_i15, mH_t71, mH_t, mH_lr, mH_l65, mH_l69, mH_l70, mH_l71, mH_l72, mH_l73, mH_l74, mH_l75, mH_c, gu_s, gu_n, ea, r1, r2]); omega) rfl ?_
            try simp (disch := omega) only [mH_t64, mH_r1, mH_r3, mH_r4, mH_r5, mH_r6, mH_r8, mH_r9, mH_r10, mH_r11, mH_r12, mH_r14, mH_i0, mH_i2, mH_i7, mH_i13, mH_i15, mH_t71, mH_t, mH_lr, mH_l65, mH_l69, mH_l70, mH_l71, mH_l72, mH_l73, mH_l74, mH_l75, mH_c, gu_s, gu_n, ea, r1, r2]
            refine e_step (pc' := 67) hK rfl rfl rfl ?_
            refine e_step (pc' := 69) hK rfl rfl rfl ?_
            refine e_step (pc' := 70) hK rfl rfl rfl ?_
            refine e_step (pc' := 72) hK rfl rfl rfl ?_
            refine e_step (pc' := 73) hK rfl rfl rfl ?_
            refine e_step (pc' := 74) hK rfl rfl rfl ?_
            refine e_step (pc' := 76) hK rfl rfl rfl ?_
            refine e_step (pc' := 77) hK rfl rfl rfl ?_
            refine e_iast (pc' := 78) hK rfl (by simp (disch := omega) only [mH_t64, mH_r1, mH_r3, mH_r4, mH_r5, mH_r6, mH_r8, mH_r9, mH_r10, mH_r11, mH_r12, mH_r14, mH_i0, mH_i2, mH_i7, mH_i13, mH_i15, mH_t71, mH_t, mH_lr, mH_l65, mH_l69, mH_l70, mH_l71, mH_l72, mH_l73, mH_l74, mH_l75, mH_c, gu_s, gu_n, ea, r1, r2]) (by omega) (by (try simp (disch := omega) only [mH_t64, mH_r1, mH_r3, mH_r4, mH_r5, mH_r6, mH_r8, mH_r9, mH_r10, mH_r11, mH_r12, mH_r14, mH_i0, mH_i2, mH_i7, mH_i13, mH_i15, mH_t71, mH_t, mH_lr, mH_l65, mH_l69, mH_l70, mH_l71, mH_l72, mH_l73, mH_l74, mH_l75, mH_c, gu_s, gu_n, ea, r1, r2]); omega) rfl ?_
            simp (disch := omega) only [mW_0, mW_2, mW_7, mW_13, mW_15, mW_a, gu_s, gu_n]
            refine e_step (pc' := 79) hK rfl rfl rfl ?_
            refine e_getR (ci := 4) (k := 11) (pc' := 82) hK rfl (by simp (disch := omega) only [mH_t64, mH_r1, mH_r3, mH_r4, mH_r5, mH_r6, mH_r8, mH_r9, mH_r10, mH_r11, mH_r12, mH_r14, mH_i0, mH_i2, mH_i7, mH_i13, mH_i15, mH_t71, mH_t, mH_lr, mH_l65, mH_l69, mH_l70, mH_l71, mH_l72, mH_l73, mH_l74, mH_l75, mH_c, gu_s, gu_n, ea, r1, r2]) rfl rfl (by decide) (by decide) (by (try simp (disch := omega) only [mH_t64, mH_r1, mH_r3, mH_r4, mH_r5, mH_r6, mH_r8, mH_r9, mH_r10, mH_r11, mH_r12, mH_r14, mH_i0, mH_i2, mH_i7, mH_i13, mH_i15, mH_t71, mH_t, mH_lr, mH_l65, mH_l69, mH_l70, mH_l71, mH_l72, mH_l73, mH_l74, mH_l75, mH_c, gu_s, gu_n, ea, r1, r2]); omega) rfl ?_
            try simp (disch := omega) only [mH_t64, mH_r1, mH_r3, mH_r4, mH_r5, mH_r6, mH_r8, mH_r9, mH_r10, mH_r11, mH_r12, mH_r14, mH_i0, mH_i2, mH_i7, mH_i13, mH_i15, mH_t71, mH_t, mH_lr, mH_l65, mH_l69, mH_l70, mH_l71, mH_l72, mH_l73, mH_l74, mH_l75, mH_c, gu_s, gu_n, ea, r1, r2]
            refine e_step (pc' := 83) hK rfl rfl rfl ?_
            refine e_step (pc' := 85) hK rfl rfl rfl ?_
            refine e_step (pc' := 86) hK rfl rfl rfl ?_
            refine e_step (pc' := 87) hK rfl rfl rfl ?_
            refine e_iast (pc' := 88) hK rfl (by simp (disch := omega) only [mH_t64, mH_r1, mH_r3, mH_r4, mH_r5, mH_r6, mH_r8, mH_r9, mH_r10, mH_r11, mH_r12, mH_r14, mH_i0, mH_i2, mH_i7, mH_i13, mH_i15, mH_t71, mH_t, mH_lr, mH_l65, mH_l69, mH_l70, mH_l71, mH_l72, mH_l73, mH_l74, mH_l75, mH_c, gu_s, gu_n, ea, r1, r2]) (by omega) (by (try simp (disch := omega) only [mH_t64, mH_r1, mH_r3, mH_r4, mH_r5, mH_r6, mH_r8, mH_r9, mH_r10, mH_r11, mH_r12, mH_r14, mH_i0, mH_i2, mH_i7, mH_i13, mH_i15, mH_t71, mH_t, mH_lr, mH_l65, mH_l69, mH_l70, mH_l71, mH_l72, mH_l73, mH_l74, mH_l75, mH_c, gu_s, gu_n, ea, r1, r2]); omega) rfl ?_
            simp (disch := omega) only [mW_0, mW_2, mW_7, mW_13, mW_15, mW_a, gu_s, gu_n]
            refine e_step (pc' := 89) hK rfl rfl rfl ?_
            refine e_getR (ci := 4) (k := 12) (pc' := 92) hK rfl (by simp (disch := omega) only [mH_t64, mH_r1, mH_r3, mH_r4, mH_r5, mH_r6, mH_r8, mH_r9, mH_r10, mH_r11, mH_r12, mH_r14, mH_i0, mH_i2, mH_i7, mH_i13, mH_i15, mH_t71, mH_t, mH_lr, mH_l65, mH_l69, mH_l70, mH_l71, mH_l72, mH_l73, mH_l74, mH_l75, mH_c, gu_s, gu_n, ea, r1, r2]) rfl rfl (by decide) (by decide) (by (try simp (disch := omega) only [mH_t64, mH_r1, mH_r3, mH_r4, mH_r5, mH_r6, mH_r8, mH_r9, mH_r10, mH_r11, mH_r12, mH_r14, mH_i0, mH_i2, mH_i7, mH_i13, mH_i15, mH_t71, mH_t, mH_lr, mH_l65, mH_l69, mH_l70, mH_l71, mH_l72, mH_l73, mH_l74, mH_l75, mH_c, gu_s, gu_n, ea, r1, r2]); omega) rfl ?_
            try simp (disch := omega) only [mH_t64, mH_r1, mH_r3, mH_r4, mH_r5, mH_r6, mH_r8, mH_r9, mH_r10, mH_r11, mH_r12, mH_r14, mH_i0, mH_i2, mH_i7, mH_i13, mH_i15, mH_t71, mH_t, mH_lr, mH_l65, mH_l69, mH_l70, mH_l71, mH_l72, mH_l73, mH_l74, mH_l75, mH_c, gu_s, gu_n, ea, r1, r2]
            refine e_step (pc' := 93) hK rfl rfl rfl ?_
            refine e_step (pc' := 95) hK rfl rfl rfl ?_
            refine e_step (pc' := 96) hK rfl rfl rfl ?_
            refine e_step (pc' := 98) hK rfl rfl rfl ?_
            refine e_iast (pc' := 99) hK rfl (by simp (disch := omega) only [mH_t64, mH_r1, mH_r3, mH_r4, mH_r5, mH_r6, mH_r8, mH_r9, mH_r10, mH_r11, mH_r12, mH_r14, mH_i0, mH_i2, mH_i7, mH_i13, mH_i15, mH_t71, mH_t, mH_lr, mH_l65, mH_l69, mH_l70, mH_l71, mH_l72, mH_l73, mH_l74, mH_l75, mH_c, gu_s, gu_n, ea, r1, r2]) (by omega) (by (try simp (disch := omega) only [mH_t64, mH_r1, mH_r3, mH_r4, mH_r5, mH_r6, mH_r8, mH_r9, mH_r10, mH_r11, mH_r12, mH_r14, mH_i0, mH_i2, mH_i7, mH_i13, mH_i15, mH_t71, mH_t, mH_lr, mH_l65, mH_l69, mH_l70, mH_l71, mH_l72, mH_l73, mH_l74, mH_l75, mH_c, gu_s, gu_n, ea, r1, r2]); omega) rfl ?_
            simp (disch := omega) only [mW_0, mW_2, mW_7, mW_13, mW_15, mW_a, gu_s, gu_n]
            refine e_step (pc' := 102) hK rfl rfl rfl ?_
            try simp only [List.set_cons_zero, List.set_cons_succ]
            refine e_step (pc' := 103) hK rfl rfl rfl ?_
            refine e_getR (ci := 4) (k := 11) (pc' := 106) hK rfl (by simp (disch := omega) only [mH_t64, mH_r1, mH_r3, mH_r4, mH_r5, mH_r6, mH_r8, mH_r9, mH_r10, mH_r11, mH_r12, mH_r14, mH_i0, mH_i2, mH_i7, mH_i13, mH_i15, mH_t71, mH_t, mH_lr, mH_l65, mH_l69, mH_l70, mH_l71, mH_l72, mH_l73, mH_l74, mH_l75, mH_c, gu_s, gu_n, ea, r1, r2]) rfl rfl (by decide) (by decide) (by (try simp (disch := omega) only [mH_t64, mH_r1, mH_r3, mH_r4, mH_r5, mH_r6, mH_r8, mH_r9, mH_r10, mH_r11, mH_r12, mH_r14, mH_i0, mH_i2, mH_i7, mH_i13, mH_i15, mH_t71, mH_t, mH_lr, mH_l65, mH_l69, mH_l70, mH_l71, mH_l72, mH_l73, mH_l74, mH_l75, mH_c, gu_s, gu_n, ea, r1, r2]); omega) rfl ?_
            try simp (disch := omega) only [mH_t64, mH_r1, mH_r3, mH_r4, mH_r5, mH_r6, mH_r8, mH_r9, mH_r10, mH_r11, mH_r12, mH_r14, mH_i0, mH_i2, mH_i7, mH_i13, mH_i15, mH_t71, mH_t, mH_lr, mH_l65, mH_l69, mH_l70, mH_l71, mH_l72, mH_l73, mH_l74, mH_l75, mH_c, gu_s, gu_n, ea, r1, r2]
            refine e_step (pc' := 107) hK rfl rfl rfl ?_
            refine e_step (pc' := 109) hK rfl rfl rfl ?_
            refine e_step (pc' := 110) hK rfl rfl rfl ?_
            refine e_step (pc' := 111) hK rfl rfl rfl ?_
            refine e_step (pc' := 112) hK rfl rfl rfl ?_
            refine e_step (pc' := 113) hK rfl rfl rfl ?_
            refine e_iald (pc' := 114) hK rfl (by simp (disch := omega) only [mH_t64, mH_r1, mH_r3, mH_r4, mH_r5, mH_r6, mH_r8, mH_r9, mH_r10, mH_r11, mH_r12, mH_r14, mH_i0, mH_i2, mH_i7, mH_i13, mH_i15, mH_t71, mH_t, mH_lr, mH_l65, mH_l69, mH_l70, mH_l71, mH_l72, mH_l73, mH_l74, mH_l75, mH_c, gu_s, gu_n, ea, r1, r2]) (by omega) (by (try simp (disch := omega) only [mH_t64, mH_r1, mH_r3, mH_r4, mH_r5, mH_r6, mH_r8, mH_r9, mH_r10, mH_r11, mH_r12, mH_r14, mH_i0, mH_i2, mH_i7, mH_i13, mH_i15, mH_t71, mH_t, mH_lr, mH_l65, mH_l69, mH_l70, mH_l71, mH_l72, mH_l73, mH_l74, mH_l75, mH_c, gu_s, gu_n, ea, r1, r2]); omega) rfl ?_
            try simp (disch := omega) only [mH_t64, mH_r1, mH_r3, mH_r4, mH_r5, mH_r6, mH_r8, mH_r9, mH_r10, mH_r11, mH_r12, mH_r14, mH_i0, mH_i2, mH_i7, mH_i13, mH_i15, mH_t71, mH_t, mH_lr, mH_l65, mH_l69, mH_l70, mH_l71, mH_l72, mH_l73, mH_l74, mH_l75, mH_c, gu_s, gu_n, ea, r1, r2]
            refine e_step (pc' := 115) hK rfl rfl rfl ?_
            refine e_step (pc' := 116) hK rfl rfl rfl ?_
            refine e_iast (pc' := 117) hK rfl (by simp (disch := omega) only [mH_t64, mH_r1, mH_r3, mH_r4, mH_r5, mH_r6, mH_r8, mH_r9, mH_r10, mH_r11, mH_r12, mH_r14, mH_i0, mH_i2, mH_i7, mH_i13, mH_i15, mH_t71, mH_t, mH_lr, mH_l65, mH_l69, mH_l70, mH_l71, mH_l72, mH_l73, mH_l74, mH_l75, mH_c, gu_s, gu_n, ea, r1, r2]) (by omega) (by (try simp (disch := omega) only [mH_t64, mH_r1, mH_r3, mH_r4, mH_r5, mH_r6, mH_r8, mH_r9, mH_r10, mH_r11, mH_r12, mH_r14, mH_i0, mH_i2, mH_i7, mH_i13, mH_i15, mH_t71, mH_t, mH_lr, mH_l65, mH_l69, mH_l70, mH_l71, mH_l72, mH_l73, mH_l74, mH_l75, mH_c, gu_s, gu_n, ea, r1, r2]); omega) rfl ?_
            simp (disch := omega) only [mW_0, mW_2, mW_7, mW_13, mW_15, mW_a, gu_s, gu_n]
            refine e_step (pc' := 120) hK rfl rfl rfl ?_
            try simp only [List.set_cons_zero, List.set_cons_succ]
            refine e_goto (t := 12) hK rfl (by decide) ?_
            have hg : px_g P (px_k (x.2 k)) = false := px_g0 (by omega)
            have e1 : (px x.2 (k + 1)).1 = P.1 + 1 := by { show (px_add (px x.2 k) (x.2 k) k).1 = _; rw [hP, px_n1, hg]; rfl }
            have e12 : P.1 < 12 := by { have := px_mono (f := x.2) (n := k + 1) (m := x.1) (by omega); omega }
            rw [show (P.1 + 1 : Int) = (px x.2 (k + 1)).1 from e1.symm]
            refine ih (k + 1) _ _ ⟨by omega, ?_, ?_⟩
            · show Ct _ _ _ (px_add (px x.2 k) (x.2 k) k)
              rw [hP]
              rw [e1]
              exact cut_n hc hg (fun q => by { simp (disch := omega) only [gu_n, gu_s] }) (fun q => by { simp (disch := omega) only [gu_n, gu_s, mv_up]; (repeat' split) <;> omega }) (fun q => by { simp (disch := omega) only [gu_n, gu_s] })
            · refine ⟨fun b a1 a2 a3 => by { show _ = v b; rw [← hf.1 b a1 a2 a3]; simp (disch := omega) only [gu_n] }, fun b q hq => by { rw [← hf.2 b q hq]; by_cases e2 : b = 272; { subst e2; simp (disch := omega) only [gu_s, gu_n, up_n] }; by_cases e3 : b = 273; { subst e3; simp (disch := omega) only [gu_s, gu_n, up_n] }; by_cases e4 : b = 274; { subst e4; simp (disch := omega) only [gu_s, gu_n, up_n] }; simp (disch := omega) only [gu_n] }⟩
set_option maxRecDepth 10000 in
theorem m_cut (a : Int) (ha : 266 ≤ a ∧ a ≤ 268) (i o : Int) (hi : 0 ≤ i ∧ i ≤ 24) (ho : o = 0 ∨ o = 12) {x : xt} (hx : xok x) (hl : Rl (v a) i x) : mv_Cl sc q_Mod_cut [(2, 264), (2, a), (0, i), (0, o)] c (mH h v) (fun r c' h' => r = (0, xn x) ∧ c' = c ∧ ∃ w, h' = mH h w ∧ Cf v w o ∧ Ct w o (2 + 42 * i + 2) (px x.2 x.1)) := by
  show mv_Ev sc 123 0 [(2, 264), (2, a), (0, i), (0, o), (5, 0), (5, 0), (5, 0), (5, 0)] [] c (mH h v) _
  have hK : (mv_m 123).1 = kc_Mod_cut := rfl
  refine e_step (pc' := 1) hK rfl rfl rfl ?_
  refine e_cRS1 (z := 116) (pc' := 4) hK rfl rfl rfl (Nat.le_of_ble_eq_true rfl) (Nat.le_of_ble_eq_true rfl) (m_lineAt i) (by decide) rfl ?_
  try simp (disch := omega) only [mH_t64, mH_r1, mH_r3, mH_r4, mH_r5, mH_r6, mH_r8, mH_r9, mH_r10, mH_r11, mH_r12, mH_r14, mH_i0, mH_i2, mH_i7, mH_i13, mH_i15, mH_t71, mH_t, mH_lr, mH_l65, mH_l69, mH_l70, mH_l71, mH_l72, mH_l73, mH_l74, mH_l75, mH_c, gu_s, gu_n]
  refine e_step (pc' := 6) hK rfl rfl rfl ?_
  try simp only [List.set_cons_zero, List.set_cons_succ]
  refine e_step (pc' := 7) hK rfl rfl rfl ?_
  refine e_step (pc' := 9) hK rfl rfl rfl ?_
  try simp only [List.set_cons_zero, List.set_cons_succ]
  refine e_step (pc' := 10) hK rfl rfl rfl ?_
  refine e_step (pc' := 12) hK rfl rfl rfl ?_
  try simp only [List.set_cons_zero, List.set_cons_succ]
  exact m_cut1 a ha i o hi ho hx hl x.1 0 v _ ⟨by omega, fun p h0 h1 => absurd h1 (by show ¬ p < 0; omega), Cf_r v o⟩
end MC
