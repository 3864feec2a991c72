/-! the reference: the next line (written by wip/whole/m54.py) -/
section MR
variable {sc : Int × (Int → Int)} {c : mv_C} {h : mv_H} {v : mvt}
theorem gla_b {A : lg} (hI : gI A) {t : Int} (h0 : 0 ≤ t) (h1 : t < gT A) : 0 ≤ gla A t ∧ gla A t < gn A ∧ gP A (gla A t) = t := by
  rcases glo_p A t (gn A) with h | h
  · obtain ⟨i, i0, i1, i2⟩ := (hI.2.2.2 t h0 h1).2.1
    exact absurd i2 (glo_n h i i0 i1 i1)
  · exact ⟨h.1, h.2.2.1, h.2.2.2.1⟩
theorem vb_le {A : lg} (hI : gI A) {l t p : Int} (h0 : 0 ≤ l) (h1 : l < gn A) (ht : gP A l = t) (p0 : 0 ≤ p) (p1 : p < xn (gL A l)) (k3 : xk (gL A l) p = 3) : vb A l p = (if glo A t l = -9999 then xv (gL A l) p else 2 * xv (gL A l) p - xv (gL A (glo A t l)) p) ∧ vb A l p ≤ 2 * xv (gL A l) p ∧ (glo A t l ≠ -9999 → xk (gL A (glo A t l)) p = 3) := by
  have hlx := gI_l hI h0 h1 ht
  have v1 := xv_b3 hlx.2.2.1 k3
  have hk := (gI_k3 hI h0 h1 ht p0 (by rw [← hlx.2.2.2.1]; exact p1)).1.mpr k3
  unfold vb
  rw [gt_P h0 h1, ht, gl_L h0 h1]
  rcases glo_p A t l with hg | hg
  · rw [if_pos hg, if_pos hg]; exact ⟨rfl, by omega, fun e => absurd hg e⟩
  · have k3' := (gI_k3 hI hg.1 hg.2.2.1 hg.2.2.2.1 p0 (by rw [← hlx.2.2.2.1]; exact p1)).1.mp hk
    have v2 := xv_b3 (gLok hI hg.1 hg.2.2.1) k3'
    have hne : ¬ glo A t l = -9999 := by omega
    rw [if_neg hne, if_neg hne, gl_L hg.1 hg.2.2.1]
    exact ⟨by omega, by omega, fun _ => k3'⟩
theorem npos_b {A : lg} (hI : gI A) {l t : Int} (h0 : 0 ≤ l) (h1 : l < gn A) (ht : gP A l = t) : npos A l (xn (gL A l)).toNat ≤ 52 ∧ ∀ p : Nat, (p : Int) < xn (gL A l) → npos A l p + ezs A l p ≤ npos A l (xn (gL A l)).toNat ∧ 0 ≤ npos A l p := by
  have hlx := gI_l hI h0 h1 ht
  have egl := gl_L (A := A) h0 h1
  have hxl : xok (gl A l) := by rw [egl]; exact hlx.2.2.1
  have b3 := xn_b hlx.2.2.1
  have hs := xz_sum hlx.2.2.1
  have hz0 := fun (q : Nat) => ezs_0 hxl (q : Int)
  refine ⟨?_, fun p hp => ⟨?_, lsum_mo hz0 (Nat.zero_le p)⟩⟩
  · have h9 : npos A l (xn (gL A l)).toNat ≤ lsum (fun p => xz (gL A l) p + 1) (xn (gL A l)).toNat := lsum_le (fun i hi => by
      by_cases h3 : xk (gl A l) i = 3
      · have := (nx_T hxl (show (0 : Int) ≤ i by omega) (by rw [egl]; omega) h3 (by rw [egl]; exact (vb_le hI h0 h1 ht (by omega) (by omega) (by rw [← egl]; exact h3)).2.1)).2.2.2.2.1
        rw [egl] at this; exact this
      · have : ezs A l i = xz (gl A l) i := if_neg h3
        rw [this, egl]; omega)
    rw [lsum_1, hs] at h9
    omega
  · exact lsum_mo hz0 (k := p + 1) (by omega)
theorem Pc_64 {v : mvt} {R g : Int → Int} {U i : Int} {x : xt} {p : Int} (hp : Pc v R U i x p) : Pc (gu v 264 g) R U i x p := by
  unfold Pc at *
  rw [gu_n (by omega), gu_n (by omega), gu_n (by omega)]
  exact hp
set_option maxRecDepth 10000 in
theorem m_aheadW {A : lg} (hR : Rw (v 266) A) (hI : gI A) (t : Int) (h0 : 0 ≤ t) (h1 : t < gT A) {u : mvt} (hu : ms v u) (hpx : ∀ p : Int, 0 ≤ p → p < xn (gL A (gla A t)) → Pc u (v 266) p (gla A t) (gL A (gla A t)) p) (p : Nat) (hp : (p : Int) < xn (gL A (gla A t))) (hk3 : xk (gL A (gla A t)) (p : Int) ≠ 3) (K : ∀ (w : mvt) (a6 a7 : mv_V), (∀ b : Int, b ≠ 264 → b ≠ 275 → w b = u b) ∧ (∀ k : Int, k ≠ 15 → w 264 k = u 264 k) → w 264 15 = npos A (gla A t) (p + 1) → (∀ q : Int, 0 ≤ q → q < npos A (gla A t) (p + 1) → w 275 q = exl A (gla A t) (xn (gL A (gla A t))).toNat 0 q) → mv_Ev sc 173 230 [(2, 264), (0, t), (0, gla A t), (0, glo A t (gla A t)), (0, xn (gL A (gla A t))), (0, (p : Int)), a6, a7] [] c (mH h w) (fun r c' h' => r = (3, 0) ∧ c' = c ∧ ∃ w, h' = mH h w ∧ (∀ b : Int, b ≠ 264 → b ≠ 272 → b ≠ 273 → b ≠ 274 → b ≠ 275 → w b = v b) ∧ (∀ k : Int, k ≠ 15 → w 264 k = v 264 k) ∧ w 264 15 = npos A (gla A t) (xn (gL A (gla A t))).toNat ∧ npos A (gla A t) (xn (gL A (gla A t))).toNat ≤ 60 ∧ ∀ k : Int, 0 ≤ k → k < npos A (gla A t) (xn (gL A (gla A t))).toNat → w 275 k = exl A (gla A t) (xn (gL A (gla A t))).toNat 0 k)) : ∀ (m : Nat) (k : Nat) (w : mvt) (a7 : mv_V), (k + m = (xz (gL A (gla A t)) (p : Int)).toNat ∧ (∀ b : Int, b ≠ 264 → b ≠ 275 → w b = u b) ∧ (∀ k : Int, k ≠ 15 → w 264 k = u 264 k) ∧ w 264 15 = npos A (gla A t) p + k ∧ ∀ q : Int, 0 ≤ q → q < npos A (gla A t) p + k → w 275 q = exl A (gla A t) (xn (gL A (gla A t))).toNat 0 q) → mv_Ev sc 173 178 [(2, 264), (0, t), (0, gla A t), (0, glo A t (gla A t)), (0, xn (gL A (gla A t))), (0, (p : Int)), (0, (k : Int)), a7] [] c (mH h w) (fun r c' h' => r = (3, 0) ∧ c' = c ∧ ∃ w, h' = mH h w ∧ (∀ b : Int, b ≠ 264 → b ≠ 272 → b ≠ 273 → b ≠ 274 → b ≠ 275 → w b = v b) ∧ (∀ k : Int, k ≠ 15 → w 264 k = v 264 k) ∧ w 264 15 = npos A (gla A t) (xn (gL A (gla A t))).toNat ∧ npos A (gla A t) (xn (gL A (gla A t))).toNat ≤ 60 ∧ ∀ k : Int, 0 ≤ k → k < npos A (gla A t) (xn (gL A (gla A t))).toNat → w 275 k = exl A (gla A t) (xn (gL A (gla A t))).toNat 0 k) := by
  intro m
  induction m with
  | zero =>
    intro k w a7 ⟨hk, hw, hw4, g1, g2⟩
    have b1 := hI.1
    have b2 := hI.2.1
    have r0 := hR.1
    have r1 := hR.2.1
    have hla := gla_b hI h0 h1
    have egl := gl_L (A := A) hla.1 hla.2.1
    have hlx := gI_l hI hla.1 hla.2.1 hla.2.2
    have hlR := (hR.2.2.1 _ hla.1 hla.2.1).1
    have b3 := xn_b hlx.2.2.1
    have hz0 := fun (q : Nat) => ezs_0 (A := A) (l := gla A t) (by rw [egl]; exact hlx.2.2.1) (q : Int)
    have hvb := fun (p : Int) (p0 : 0 ≤ p) (p1 : p < xn (gL A (gla A t))) (k3 : xk (gL A (gla A t)) p = 3) => vb_le hI hla.1 hla.2.1 hla.2.2 p0 p1 k3
    have htot := npos_b hI hla.1 hla.2.1 hla.2.2
    have e66 : w 266 = v 266 := (hw 266 (by omega) (by omega)).trans (hu 266 (by omega) (by omega) (by omega))
    have e72 : w 272 = u 272 := hw 272 (by omega) (by omega)
    have e73 : w 273 = u 273 := hw 273 (by omega) (by omega)
    have hpp := hpx p (by omega) hp
    have z3 := hpp.2.2.2.1
    have hpb := Pc_b hpp
    have hxp := xp_b hlx.2.2.1 (show (0 : Int) ≤ p by omega) hp
    have hns : npos A (gla A t) (p + 1) = npos A (gla A t) p + ezs A (gla A t) p := rfl
    have hez : ezs A (gla A t) (p : Int) = xz (gL A (gla A t)) (p : Int) := by { unfold ezs; rw [if_neg (by rw [egl]; exact hk3), egl] }
    have htp := htot.2 p hp
    have hK : (mv_m 173).1 = kc_Mod_layAhead := rfl
    refine e_step (pc' := 180) hK rfl rfl rfl ?_
    refine e_step (pc' := 181) hK rfl rfl rfl ?_
    refine e_getR (ci := 4) (k := 11) (pc' := 184) hK rfl (by simp (disch := omega) only [mH_t64, mH_r1, mH_r3, mH_r4, mH_r5, mH_r6, mH_r8, mH_r9, mH_r10, mH_r11, mH_r12, mH_r14, mH_i0, mH_i2, mH_i7, mH_i13, mH_i15, mH_t71, mH_t, mH_lr, mH_l65, mH_l69, mH_l70, mH_l71, mH_l72, mH_l73, mH_l74, mH_l75, mH_c, e66, e72, e73, z3, g1]) rfl rfl (by decide) (by decide) (by (try simp (disch := omega) only [mH_t64, mH_r1, mH_r3, mH_r4, mH_r5, mH_r6, mH_r8, mH_r9, mH_r10, mH_r11, mH_r12, mH_r14, mH_i0, mH_i2, mH_i7, mH_i13, mH_i15, mH_t71, mH_t, mH_lr, mH_l65, mH_l69, mH_l70, mH_l71, mH_l72, mH_l73, mH_l74, mH_l75, mH_c, e66, e72, e73, z3, g1]); omega) rfl ?_
    try simp (disch := omega) only [mH_t64, mH_r1, mH_r3, mH_r4, mH_r5, mH_r6, mH_r8, mH_r9, mH_r10, mH_r11, mH_r12, mH_r14, mH_i0, mH_i2, mH_i7, mH_i13, mH_i15, mH_t71, mH_t, mH_lr, mH_l65, mH_l69, mH_l70, mH_l71, mH_l72, mH_l73, mH_l74, mH_l75, mH_c, e66, e72, e73, z3, g1]
    refine e_step (pc' := 186) hK rfl rfl rfl ?_
    refine e_iald (pc' := 187) hK rfl (by simp (disch := omega) only [mH_t64, mH_r1, mH_r3, mH_r4, mH_r5, mH_r6, mH_r8, mH_r9, mH_r10, mH_r11, mH_r12, mH_r14, mH_i0, mH_i2, mH_i7, mH_i13, mH_i15, mH_t71, mH_t, mH_lr, mH_l65, mH_l69, mH_l70, mH_l71, mH_l72, mH_l73, mH_l74, mH_l75, mH_c, e66, e72, e73, z3, g1]) (by omega) (by (try simp (disch := omega) only [mH_t64, mH_r1, mH_r3, mH_r4, mH_r5, mH_r6, mH_r8, mH_r9, mH_r10, mH_r11, mH_r12, mH_r14, mH_i0, mH_i2, mH_i7, mH_i13, mH_i15, mH_t71, mH_t, mH_lr, mH_l65, mH_l69, mH_l70, mH_l71, mH_l72, mH_l73, mH_l74, mH_l75, mH_c, e66, e72, e73, z3, g1]); omega) rfl ?_
    try simp (disch := omega) only [mH_t64, mH_r1, mH_r3, mH_r4, mH_r5, mH_r6, mH_r8, mH_r9, mH_r10, mH_r11, mH_r12, mH_r14, mH_i0, mH_i2, mH_i7, mH_i13, mH_i15, mH_t71, mH_t, mH_lr, mH_l65, mH_l69, mH_l70, mH_l71, mH_l72, mH_l73, mH_l74, mH_l75, mH_c, e66, e72, e73, z3, g1]
    refine e_icmp (t := 230) (pc' := 190) hK rfl (by omega) (by omega) (by decide) rfl (fun hb187 => ?_) (fun hb187 => ?_)
    · replace hb187 := cq_ge.1.mp hb187
      have e9 : npos A (gla A t) (p + 1) = npos A (gla A t) p + k := by { rw [hns, hez]; omega }
      exact K w _ _ ⟨hw, hw4⟩ (by rw [e9]; exact g1) (fun q q0 q1 => g2 q q0 (by rw [e9] at q1; exact q1))
    · replace hb187 := cq_ge.2.mp hb187
      exfalso; first | omega | exact absurd trivial (by assumption)
  | succ m ih =>
    intro k w a7 ⟨hk, hw, hw4, g1, g2⟩
    have b1 := hI.1
    have b2 := hI.2.1
    have r0 := hR.1
    have r1 := hR.2.1
    have hla := gla_b hI h0 h1
    have egl := gl_L (A := A) hla.1 hla.2.1
    have hlx := gI_l hI hla.1 hla.2.1 hla.2.2
    have hlR := (hR.2.2.1 _ hla.1 hla.2.1).1
    have b3 := xn_b hlx.2.2.1
    have hz0 := fun (q : Nat) => ezs_0 (A := A) (l := gla A t) (by rw [egl]; exact hlx.2.2.1) (q : Int)
    have hvb := fun (p : Int) (p0 : 0 ≤ p) (p1 : p < xn (gL A (gla A t))) (k3 : xk (gL A (gla A t)) p = 3) => vb_le hI hla.1 hla.2.1 hla.2.2 p0 p1 k3
    have htot := npos_b hI hla.1 hla.2.1 hla.2.2
    have e66 : w 266 = v 266 := (hw 266 (by omega) (by omega)).trans (hu 266 (by omega) (by omega) (by omega))
    have e72 : w 272 = u 272 := hw 272 (by omega) (by omega)
    have e73 : w 273 = u 273 := hw 273 (by omega) (by omega)
    have hpp := hpx p (by omega) hp
    have z3 := hpp.2.2.2.1
    have hpb := Pc_b hpp
    have hxp := xp_b hlx.2.2.1 (show (0 : Int) ≤ p by omega) hp
    have hns : npos A (gla A t) (p + 1) = npos A (gla A t) p + ezs A (gla A t) p := rfl
    have hez : ezs A (gla A t) (p : Int) = xz (gL A (gla A t)) (p : Int) := by { unfold ezs; rw [if_neg (by rw [egl]; exact hk3), egl] }
    have htp := htot.2 p hp
    have hK : (mv_m 173).1 = kc_Mod_layAhead := rfl
    refine e_step (pc' := 180) hK rfl rfl rfl ?_
    refine e_step (pc' := 181) hK rfl rfl rfl ?_
    refine e_getR (ci := 4) (k := 11) (pc' := 184) hK rfl (by simp (disch := omega) only [mH_t64, mH_r1, mH_r3, mH_r4, mH_r5, mH_r6, mH_r8, mH_r9, mH_r10, mH_r11, mH_r12, mH_r14, mH_i0, mH_i2, mH_i7, mH_i13, mH_i15, mH_t71, mH_t, mH_lr, mH_l65, mH_l69, mH_l70, mH_l71, mH_l72, mH_l73, mH_l74, mH_l75, mH_c, e66, e72, e73, z3, g1]) rfl rfl (by decide) (by decide) (by (try simp (disch := omega) only [mH_t64, mH_r1, mH_r3, mH_r4, mH_r5, mH_r6, mH_r8, mH_r9, mH_r10, mH_r11, mH_r12, mH_r14, mH_i0, mH_i2, mH_i7, mH_i13, mH_i15, mH_t71, mH_t, mH_lr, mH_l65, mH_l69, mH_l70, mH_l71, mH_l72, mH_l73, mH_l74, mH_l75, mH_c, e66, e72, e73, z3, g1]); omega) rfl ?_
    try simp (disch := omega) only [mH_t64, mH_r1, mH_r3, mH_r4, mH_r5, mH_r6, mH_r8, mH_r9, mH_r10, mH_r11, mH_r12, mH_r14, mH_i0, mH_i2, mH_i7, mH_i13, mH_i15, mH_t71, mH_t, mH_lr, mH_l65, mH_l69, mH_l70, mH_l71, mH_l72, mH_l73, mH_l74, mH_l75, mH_c, e66, e72, e73, z3, g1]
    refine e_step (pc' := 186) hK rfl rfl rfl ?_
    refine e_iald (pc' := 187) hK rfl (by simp (disch := omega) only [mH_t64, mH_r1, mH_r3, mH_r4, mH_r5, mH_r6, mH_r8, mH_r9, mH_r10, mH_r11, mH_r12, mH_r14, mH_i0, mH_i2, mH_i7, mH_i13, mH_i15, mH_t71, mH_t, mH_lr, mH_l65, mH_l69, mH_l70, mH_l71, mH_l72, mH_l73, mH_l74, mH_l75, mH_c, e66, e72, e73, z3, g1]) (by omega) (by (try simp (disch := omega) only [mH_t64, mH_r1, mH_r3, mH_r4, mH_r5, mH_r6, mH_r8, mH_r9, mH_r10, mH_r11, mH_r12, mH_r14, mH_i0, mH_i2, mH_i7, mH_i13, mH_i15, mH_t71, mH_t, mH_lr, mH_l65, mH_l69, mH_l70, mH_l71, mH_l72, mH_l73, mH_l74, mH_l75, mH_c, e66, e72, e73, z3, g1]); omega) rfl ?_
    try simp (disch := omega) only [mH_t64, mH_r1, mH_r3, mH_r4, mH_r5, mH_r6, mH_r8, mH_r9, mH_r10, mH_r11, mH_r12, mH_r14, mH_i0, mH_i2, mH_i7, mH_i13, mH_i15, mH_t71, mH_t, mH_lr, mH_l65, mH_l69, mH_l70, mH_l71, mH_l72, mH_l73, mH_l74, mH_l75, mH_c, e66, e72, e73, z3, g1]
    refine e_icmp (t := 230) (pc' := 190) hK rfl (by omega) (by omega) (by decide) rfl (fun hb187 => ?_) (fun hb187 => ?_)
    · replace hb187 := cq_ge.1.mp hb187
      exfalso; first | omega | exact absurd trivial (by assumption)
    · replace hb187 := cq_ge.2.mp hb187
      have hch := Pc_ch hpp (k : Int) (by omega) (by omega)
      have hc1 := hch.1
      refine e_step (pc' := 191) hK rfl rfl rfl ?_
      refine e_getR (ci := 4) (k := 14) (pc' := 194) hK rfl (by simp (disch := omega) only [mH_t64, mH_r1, mH_r3, mH_r4, mH_r5, mH_r6, mH_r8, mH_r9, mH_r10, mH_r11, mH_r12, mH_r14, mH_i0, mH_i2, mH_i7, mH_i13, mH_i15, mH_t71, mH_t, mH_lr, mH_l65, mH_l69, mH_l70, mH_l71, mH_l72, mH_l73, mH_l74, mH_l75, mH_c, e66, e72, e73, z3, g1, hc1]) rfl rfl (by decide) (by decide) (by (try simp (disch := omega) only [mH_t64, mH_r1, mH_r3, mH_r4, mH_r5, mH_r6, mH_r8, mH_r9, mH_r10, mH_r11, mH_r12, mH_r14, mH_i0, mH_i2, mH_i7, mH_i13, mH_i15, mH_t71, mH_t, mH_lr, mH_l65, mH_l69, mH_l70, mH_l71, mH_l72, mH_l73, mH_l74, mH_l75, mH_c, e66, e72, e73, z3, g1, hc1]); omega) rfl ?_
      try simp (disch := omega) only [mH_t64, mH_r1, mH_r3, mH_r4, mH_r5, mH_r6, mH_r8, mH_r9, mH_r10, mH_r11, mH_r12, mH_r14, mH_i0, mH_i2, mH_i7, mH_i13, mH_i15, mH_t71, mH_t, mH_lr, mH_l65, mH_l69, mH_l70, mH_l71, mH_l72, mH_l73, mH_l74, mH_l75, mH_c, e66, e72, e73, z3, g1, hc1]
      refine e_step (pc' := 195) hK rfl rfl rfl ?_
      refine e_getI (ci := 4) (k := 15) (pc' := 198) hK rfl (by simp (disch := omega) only [mH_t64, mH_r1, mH_r3, mH_r4, mH_r5, mH_r6, mH_r8, mH_r9, mH_r10, mH_r11, mH_r12, mH_r14, mH_i0, mH_i2, mH_i7, mH_i13, mH_i15, mH_t71, mH_t, mH_lr, mH_l65, mH_l69, mH_l70, mH_l71, mH_l72, mH_l73, mH_l74, mH_l75, mH_c, e66, e72, e73, z3, g1, hc1]) rfl rfl (by decide) (by decide) rfl ?_
      try simp (disch := omega) only [mH_t64, mH_r1, mH_r3, mH_r4, mH_r5, mH_r6, mH_r8, mH_r9, mH_r10, mH_r11, mH_r12, mH_r14, mH_i0, mH_i2, mH_i7, mH_i13, mH_i15, mH_t71, mH_t, mH_lr, mH_l65, mH_l69, mH_l70, mH_l71, mH_l72, mH_l73, mH_l74, mH_l75, mH_c, e66, e72, e73, z3, g1, hc1]
      refine e_step (pc' := 199) hK rfl rfl rfl ?_
      refine e_getR (ci := 4) (k := 3) (pc' := 202) hK rfl (by simp (disch := omega) only [mH_t64, mH_r1, mH_r3, mH_r4, mH_r5, mH_r6, mH_r8, mH_r9, mH_r10, mH_r11, mH_r12, mH_r14, mH_i0, mH_i2, mH_i7, mH_i13, mH_i15, mH_t71, mH_t, mH_lr, mH_l65, mH_l69, mH_l70, mH_l71, mH_l72, mH_l73, mH_l74, mH_l75, mH_c, e66, e72, e73, z3, g1, hc1]) rfl rfl (by decide) (by decide) (by (try simp (disch := omega) only [mH_t64, mH_r1, mH_r3, mH_r4, mH_r5, mH_r6, mH_r8, mH_r9, mH_r10, mH_r11, mH_r12, mH_r14, mH_i0, mH_i2, mH_i7, mH_i13, mH_i15, mH_t71, mH_t, mH_lr, mH_l65, mH_l69, mH_l70, mH_l71, mH_l72, mH_l73, mH_l74, mH_l75, mH_c, e66, e72, e73, z3, g1, hc1]); omega) rfl ?_
      try simp (disch := omega) only [mH_t64, mH_r1, mH_r3, mH_r4, mH_r5, mH_r6, mH_r8, mH_r9, mH_r10, mH_r11, mH_r12, mH_r14, mH_i0, mH_i2, mH_i7, mH_i13, mH_i15, mH_t71, mH_t, mH_lr, mH_l65, mH_l69, mH_l70, mH_l71, mH_l72, mH_l73, mH_l74, mH_l75, mH_c, e66, e72, e73, z3, g1, hc1]
      refine e_step (pc' := 203) hK rfl rfl rfl ?_
      refine e_getR (ci := 4) (k := 10) (pc' := 206) hK rfl (by simp (disch := omega) only [mH_t64, mH_r1, mH_r3, mH_r4, mH_r5, mH_r6, mH_r8, mH_r9, mH_r10, mH_r11, mH_r12, mH_r14, mH_i0, mH_i2, mH_i7, mH_i13, mH_i15, mH_t71, mH_t, mH_lr, mH_l65, mH_l69, mH_l70, mH_l71, mH_l72, mH_l73, mH_l74, mH_l75, mH_c, e66, e72, e73, z3, g1, hc1]) rfl rfl (by decide) (by decide) (by (try simp (disch := omega) only [mH_t64, mH_r1, mH_r3, mH_r4, mH_r5, mH_r6, mH_r8, mH_r9, mH_r10, mH_r11, mH_r12, mH_r14, mH_i0, mH_i2, mH_i7, mH_i13, mH_i15, mH_t71, mH_t, mH_lr, mH_l65, mH_l69, mH_l70, mH_l71, mH_l72, mH_l73, mH_l74, mH_l75, mH_c, e66, e72, e73, z3, g1, hc1]); omega) rfl ?_
      try simp (disch := omega) only [mH_t64, mH_r1, mH_r3, mH_r4, mH_r5, mH_r6, mH_r8, mH_r9, mH_r10, mH_r11, mH_r12, mH_r14, mH_i0, mH_i2, mH_i7, mH_i13, mH_i15, mH_t71, mH_t, mH_lr, mH_l65, mH_l69, mH_l70, mH_l71, mH_l72, mH_l73, mH_l74, mH_l75, mH_c, e66, e72, e73, z3, g1, hc1]
      refine e_step (pc' := 208) hK rfl rfl rfl ?_
      refine e_iald (pc' := 209) hK rfl (by simp (disch := omega) only [mH_t64, mH_r1, mH_r3, mH_r4, mH_r5, mH_r6, mH_r8, mH_r9, mH_r10, mH_r11, mH_r12, mH_r14, mH_i0, mH_i2, mH_i7, mH_i13, mH_i15, mH_t71, mH_t, mH_lr, mH_l65, mH_l69, mH_l70, mH_l71, mH_l72, mH_l73, mH_l74, mH_l75, mH_c, e66, e72, e73, z3, g1, hc1]) (by omega) (by (try simp (disch := omega) only [mH_t64, mH_r1, mH_r3, mH_r4, mH_r5, mH_r6, mH_r8, mH_r9, mH_r10, mH_r11, mH_r12, mH_r14, mH_i0, mH_i2, mH_i7, mH_i13, mH_i15, mH_t71, mH_t, mH_lr, mH_l65, mH_l69, mH_l70, mH_l71, mH_l72, mH_l73, mH_l74, mH_l75, mH_c, e66, e72, e73, z3, g1, hc1]); omega) rfl ?_
      try simp (disch := omega) only [mH_t64, mH_r1, mH_r3, mH_r4, mH_r5, mH_r6, mH_r8, mH_r9, mH_r10, mH_r11, mH_r12, mH_r14, mH_i0, mH_i2, mH_i7, mH_i13, mH_i15, mH_t71, mH_t, mH_lr, mH_l65, mH_l69, mH_l70, mH_l71, mH_l72, mH_l73, mH_l74, mH_l75, mH_c, e66, e72, e73, z3, g1, hc1]
      refine e_step (pc' := 211) hK rfl rfl rfl ?_
      refine e_step (pc' := 212) hK rfl rfl rfl ?_
      refine e_iald (pc' := 213) hK rfl (by simp (disch := omega) only [mH_t64, mH_r1, mH_r3, mH_r4, mH_r5, mH_r6, mH_r8, mH_r9, mH_r10, mH_r11, mH_r12, mH_r14, mH_i0, mH_i2, mH_i7, mH_i13, mH_i15, mH_t71, mH_t, mH_lr, mH_l65, mH_l69, mH_l70, mH_l71, mH_l72, mH_l73, mH_l74, mH_l75, mH_c, e66, e72, e73, z3, g1, hc1]) (by omega) (by (try simp (disch := omega) only [mH_t64, mH_r1, mH_r3, mH_r4, mH_r5, mH_r6, mH_r8, mH_r9, mH_r10, mH_r11, mH_r12, mH_r14, mH_i0, mH_i2, mH_i7, mH_i13, mH_i15, mH_t71, mH_t, mH_lr, mH_l65, mH_l69, mH_l70, mH_l71, mH_l72, mH_l73, mH_l74, mH_l75, mH_c, e66, e72, e73, z3, g1, hc1]); omega) rfl ?_
      try simp (disch := omega) only [mH_t64, mH_r1, mH_r3, mH_r4, mH_r5, mH_r6, mH_r8, mH_r9, mH_r10, mH_r11, mH_r12, mH_r14, mH_i0, mH_i2, mH_i7, mH_i13, mH_i15, mH_t71, mH_t, mH_lr, mH_l65, mH_l69, mH_l70, mH_l71, mH_l72, mH_l73, mH_l74, mH_l75, mH_c, e66, e72, e73, z3, g1, hc1]
      refine e_iast (pc' := 214) hK rfl (by simp (disch := omega) only [mH_t64, mH_r1, mH_r3, mH_r4, mH_r5, mH_r6, mH_r8, mH_r9, mH_r10, mH_r11, mH_r12, mH_r14, mH_i0, mH_i2, mH_i7, mH_i13, mH_i15, mH_t71, mH_t, mH_lr, mH_l65, mH_l69, mH_l70, mH_l71, mH_l72, mH_l73, mH_l74, mH_l75, mH_c, e66, e72, e73, z3, g1, hc1]) (by omega) (by (try simp (disch := omega) only [mH_t64, mH_r1, mH_r3, mH_r4, mH_r5, mH_r6, mH_r8, mH_r9, mH_r10, mH_r11, mH_r12, mH_r14, mH_i0, mH_i2, mH_i7, mH_i13, mH_i15, mH_t71, mH_t, mH_lr, mH_l65, mH_l69, mH_l70, mH_l71, mH_l72, mH_l73, mH_l74, mH_l75, mH_c, e66, e72, e73, z3, g1, hc1]); omega) rfl ?_
      simp (disch := omega) only [mW_0, mW_2, mW_7, mW_13, mW_15, mW_a, gu_s, gu_n]
      refine e_step (pc' := 215) hK rfl rfl rfl ?_
      refine e_step (pc' := 216) hK rfl rfl rfl ?_
      refine e_getI (ci := 4) (k := 15) (pc' := 219) hK rfl (by simp (disch := omega) only [mH_t64, mH_r1, mH_r3, mH_r4, mH_r5, mH_r6, mH_r8, mH_r9, mH_r10, mH_r11, mH_r12, mH_r14, mH_i0, mH_i2, mH_i7, mH_i13, mH_i15, mH_t71, mH_t, mH_lr, mH_l65, mH_l69, mH_l70, mH_l71, mH_l72, mH_l73, mH_l74, mH_l75, mH_c, e66, e72, e73, z3, g1, hc1]) rfl rfl (by decide) (by decide) rfl ?_
      try simp (disch := omega) only [mH_t64, mH_r1, mH_r3, mH_r4, mH_r5, mH_r6, mH_r8, mH_r9, mH_r10, mH_r11, mH_r12, mH_r14, mH_i0, mH_i2, mH_i7, mH_i13, mH_i15, mH_t71, mH_t, mH_lr, mH_l65, mH_l69, mH_l70, mH_l71, mH_l72, mH_l73, mH_l74, mH_l75, mH_c, e66, e72, e73, z3, g1, hc1]
      refine e_step (pc' := 220) hK rfl rfl rfl ?_
      refine e_step (pc' := 221) hK rfl rfl rfl ?_
      refine e_put (ci := 4) (k := 15) (pc' := 224) hK rfl (by simp (disch := omega) only [mH_t64, mH_r1, mH_r3, mH_r4, mH_r5, mH_r6, mH_r8, mH_r9, mH_r10, mH_r11, mH_r12, mH_r14, mH_i0, mH_i2, mH_i7, mH_i13, mH_i15, mH_t71, mH_t, mH_lr, mH_l65, mH_l69, mH_l70, mH_l71, mH_l72, mH_l73, mH_l74, mH_l75, mH_c, e66, e72, e73, z3, g1, hc1]) rfl rfl (by decide) rfl rfl ?_
      simp (disch := omega) only [mW_0, mW_2, mW_7, mW_13, mW_15, mW_a, gu_s, gu_n]
      refine e_step (pc' := 227) hK rfl rfl rfl ?_
      try simp only [List.set_cons_zero, List.set_cons_succ]
      refine e_goto (t := 178) hK rfl (by decide) ?_
      refine ih (k + 1) _ _ ⟨by omega, fun b n1 n2 => ?_, fun q n1 => ?_, ?_, fun q q0 q1 => ?_⟩
      · rw [gu_n n1, gu_n n2]; exact hw b n1 n2
      · rw [gu_s, up_n n1]; first | exact hw4 q n1 | (rw [gu_n (by omega)]; exact hw4 q n1)
      · rw [gu_s, up_s]; omega
      · rw [gu_n (by omega), gu_s]
        by_cases e : q = npos A (gla A t) p + k
        · rw [e, up_s, exl_in (p := p) hz0 (by omega) (by omega) (by omega), egl, if_neg hk3, show npos A (gla A t) p + (k : Int) - npos A (gla A t) p = k from by omega]
          exact (if_pos ⟨by omega, by omega⟩ : xc (gL A (gla A t)) (xs (gL A (gla A t)) (p : Int) + k) = _).symm
        · rw [up_n e]; exact g2 q q0 (by omega)
set_option maxRecDepth 20000 in
theorem m_aheadO {A : lg} (hR : Rw (v 266) A) (hI : gI A) (t : Int) (h0 : 0 ≤ t) (h1 : t < gT A) {u : mvt} (hu : ms v u) (hpx : ∀ p : Int, 0 ≤ p → p < xn (gL A (gla A t)) → Pc u (v 266) p (gla A t) (gL A (gla A t)) p) (hpy : glo A t (gla A t) ≠ -9999 → ∀ p : Int, 0 ≤ p → p < xn (gL A (gla A t)) → Pc u (v 266) (12 + p) (glo A t (gla A t)) (gL A (glo A t (gla A t))) p) : ∀ (m : Nat) (p : Nat) (w : mvt) (a6 a7 : mv_V), (p + m = (xn (gL A (gla A t))).toNat ∧ (∀ b : Int, b ≠ 264 → b ≠ 275 → w b = u b) ∧ (∀ k : Int, k ≠ 15 → w 264 k = u 264 k) ∧ w 264 15 = npos A (gla A t) p ∧ ∀ q : Int, 0 ≤ q → q < npos A (gla A t) p → w 275 q = exl A (gla A t) (xn (gL A (gla A t))).toNat 0 q) → mv_Ev sc 173 58 [(2, 264), (0, t), (0, gla A t), (0, glo A t (gla A t)), (0, xn (gL A (gla A t))), (0, (p : Int)), a6, a7] [] c (mH h w) (fun r c' h' => r = (3, 0) ∧ c' = c ∧ ∃ w, h' = mH h w ∧ (∀ b : Int, b ≠ 264 → b ≠ 272 → b ≠ 273 → b ≠ 274 → b ≠ 275 → w b = v b) ∧ (∀ k : Int, k ≠ 15 → w 264 k = v 264 k) ∧ w 264 15 = npos A (gla A t) (xn (gL A (gla A t))).toNat ∧ npos A (gla A t) (xn (gL A (gla A t))).toNat ≤ 60 ∧ ∀ k : Int, 0 ≤ k → k < npos A (gla A t) (xn (gL A (gla A t))).toNat → w 275 k = exl A (gla A t) (xn (gL A (gla A t))).toNat 0 k) := by
  intro m
  induction m with
  | zero =>
    intro p w a6 a7 ⟨hk, hw, hw4, g1, g2⟩
    have b1 := hI.1
    have b2 := hI.2.1
    have r0 := hR.1
    have r1 := hR.2.1
    have hla := gla_b hI h0 h1
    have egl := gl_L (A := A) hla.1 hla.2.1
    have hlx := gI_l hI hla.1 hla.2.1 hla.2.2
    have hlR := (hR.2.2.1 _ hla.1 hla.2.1).1
    have b3 := xn_b hlx.2.2.1
    have hz0 := fun (q : Nat) => ezs_0 (A := A) (l := gla A t) (by rw [egl]; exact hlx.2.2.1) (q : Int)
    have hvb := fun (p : Int) (p0 : 0 ≤ p) (p1 : p < xn (gL A (gla A t))) (k3 : xk (gL A (gla A t)) p = 3) => vb_le hI hla.1 hla.2.1 hla.2.2 p0 p1 k3
    have htot := npos_b hI hla.1 hla.2.1 hla.2.2
    have e66 : w 266 = v 266 := (hw 266 (by omega) (by omega)).trans (hu 266 (by omega) (by omega) (by omega))
    have e72 : w 272 = u 272 := hw 272 (by omega) (by omega)
    have e73 : w 273 = u 273 := hw 273 (by omega) (by omega)
    have e74 : w 274 = u 274 := hw 274 (by omega) (by omega)
    have hK : (mv_m 173).1 = kc_Mod_layAhead := rfl
    refine e_step (pc' := 60) hK rfl rfl rfl ?_
    refine e_step (pc' := 62) hK rfl rfl rfl ?_
    refine e_icmp (t := 236) (pc' := 65) hK rfl (by first | omega | (have q9 := glo_b A t (gla A t); omega)) (by first | omega | (have q9 := glo_b A t (gla A t); omega)) (by decide) rfl (fun hb62 => ?_) (fun hb62 => ?_)
    · replace hb62 := cq_ge.1.mp hb62
      refine e_ret hK rfl rfl rfl ?_
      have e : p = (xn (gL A (gla A t))).toNat := by omega
      subst e
      exact ⟨rfl, rfl, w, rfl, fun b n1 n2 n3 n4 n5 => (hw b n1 n5).trans (hu b n2 n3 n4), fun k n1 => (hw4 k n1).trans (congrFun (hu 264 (by omega) (by omega) (by omega)) k), g1, by omega, g2⟩
    · replace hb62 := cq_ge.2.mp hb62
      exfalso; first | omega | exact absurd trivial (by assumption) | (first | omega | (have q9 := glo_b A t (gla A t); omega))
  | succ m ih =>
    intro p w a6 a7 ⟨hk, hw, hw4, g1, g2⟩
    have b1 := hI.1
    have b2 := hI.2.1
    have r0 := hR.1
    have r1 := hR.2.1
    have hla := gla_b hI h0 h1
    have egl := gl_L (A := A) hla.1 hla.2.1
    have hlx := gI_l hI hla.1 hla.2.1 hla.2.2
    have hlR := (hR.2.2.1 _ hla.1 hla.2.1).1
    have b3 := xn_b hlx.2.2.1
    have hz0 := fun (q : Nat) => ezs_0 (A := A) (l := gla A t) (by rw [egl]; exact hlx.2.2.1) (q : Int)
    have hvb := fun (p : Int) (p0 : 0 ≤ p) (p1 : p < xn (gL A (gla A t))) (k3 : xk (gL A (gla A t)) p = 3) => vb_le hI hla.1 hla.2.1 hla.2.2 p0 p1 k3
    have htot := npos_b hI hla.1 hla.2.1 hla.2.2
    have e66 : w 266 = v 266 := (hw 266 (by omega) (by omega)).trans (hu 266 (by omega) (by omega) (by omega))
    have e72 : w 272 = u 272 := hw 272 (by omega) (by omega)
    have e73 : w 273 = u 273 := hw 273 (by omega) (by omega)
    have e74 : w 274 = u 274 := hw 274 (by omega) (by omega)
    have hK : (mv_m 173).1 = kc_Mod_layAhead := rfl
    refine e_step (pc' := 60) hK rfl rfl rfl ?_
    refine e_step (pc' := 62) hK rfl rfl rfl ?_
    refine e_icmp (t := 236) (pc' := 65) hK rfl (by first | omega | (have q9 := glo_b A t (gla A t); omega)) (by first | omega | (have q9 := glo_b A t (gla A t); omega)) (by decide) rfl (fun hb62 => ?_) (fun hb62 => ?_)
    · replace hb62 := cq_ge.1.mp hb62
      exfalso; first | omega | exact absurd trivial (by assumption) | (first | omega | (have q9 := glo_b A t (gla A t); omega))
    · replace hb62 := cq_ge.2.mp hb62
      have hp : (p : Int) < xn (gL A (gla A t)) := by omega
      have hpp := hpx p (by omega) hp
      have hpb := Pc_b hpp
      have zk := hpp.2.2.2.2
      have z3 := hpp.2.2.2.1
      have hxp := xp_b hlx.2.2.1 (show (0 : Int) ≤ p by omega) hp
      have htp := htot.2 p hp
      have hpw : Pc w (w 266) p (gla A t) (gL A (gla A t)) p := by { unfold Pc at hpp ⊢; rw [e66, e72, e73, e74]; exact hpp }
      refine e_step (pc' := 66) hK rfl rfl rfl ?_
      refine e_getR (ci := 4) (k := 12) (pc' := 69) hK rfl (by simp (disch := omega) only [mH_t64, mH_r1, mH_r3, mH_r4, mH_r5, mH_r6, mH_r8, mH_r9, mH_r10, mH_r11, mH_r12, mH_r14, mH_i0, mH_i2, mH_i7, mH_i13, mH_i15, mH_t71, mH_t, mH_lr, mH_l65, mH_l69, mH_l70, mH_l71, mH_l72, mH_l73, mH_l74, mH_l75, mH_c, e66, e72, e73, e74, zk, z3]) rfl rfl (by decide) (by decide) (by (try simp (disch := omega) only [mH_t64, mH_r1, mH_r3, mH_r4, mH_r5, mH_r6, mH_r8, mH_r9, mH_r10, mH_r11, mH_r12, mH_r14, mH_i0, mH_i2, mH_i7, mH_i13, mH_i15, mH_t71, mH_t, mH_lr, mH_l65, mH_l69, mH_l70, mH_l71, mH_l72, mH_l73, mH_l74, mH_l75, mH_c, e66, e72, e73, e74, zk, z3]); first | omega | (have q9 := glo_b A t (gla A t); omega)) rfl ?_
      try simp (disch := omega) only [mH_t64, mH_r1, mH_r3, mH_r4, mH_r5, mH_r6, mH_r8, mH_r9, mH_r10, mH_r11, mH_r12, mH_r14, mH_i0, mH_i2, mH_i7, mH_i13, mH_i15, mH_t71, mH_t, mH_lr, mH_l65, mH_l69, mH_l70, mH_l71, mH_l72, mH_l73, mH_l74, mH_l75, mH_c, e66, e72, e73, e74, zk, z3]
      refine e_step (pc' := 71) hK rfl rfl rfl ?_
      refine e_iald (pc' := 72) hK rfl (by simp (disch := omega) only [mH_t64, mH_r1, mH_r3, mH_r4, mH_r5, mH_r6, mH_r8, mH_r9, mH_r10, mH_r11, mH_r12, mH_r14, mH_i0, mH_i2, mH_i7, mH_i13, mH_i15, mH_t71, mH_t, mH_lr, mH_l65, mH_l69, mH_l70, mH_l71, mH_l72, mH_l73, mH_l74, mH_l75, mH_c, e66, e72, e73, e74, zk, z3]) (by first | omega | (have q9 := glo_b A t (gla A t); omega)) (by (try simp (disch := omega) only [mH_t64, mH_r1, mH_r3, mH_r4, mH_r5, mH_r6, mH_r8, mH_r9, mH_r10, mH_r11, mH_r12, mH_r14, mH_i0, mH_i2, mH_i7, mH_i13, mH_i15, mH_t71, mH_t, mH_lr, mH_l65, mH_l69, mH_l70, mH_l71, mH_l72, mH_l73, mH_l74, mH_l75, mH_c, e66, e72, e73, e74, zk, z3]); first | omega | (have q9 := glo_b A t (gla A t); omega)) rfl ?_
      try simp (disch := omega) only [mH_t64, mH_r1, mH_r3, mH_r4, mH_r5, mH_r6, mH_r8, mH_r9, mH_r10, mH_r11, mH_r12, mH_r14, mH_i0, mH_i2, mH_i7, mH_i13, mH_i15, mH_t71, mH_t, mH_lr, mH_l65, mH_l69, mH_l70, mH_l71, mH_l72, mH_l73, mH_l74, mH_l75, mH_c, e66, e72, e73, e74, zk, z3]
      refine e_step (pc' := 73) hK rfl rfl rfl ?_
      refine e_icmp (t := 175) (pc' := 76) hK rfl (by first | omega | (have q9 := glo_b A t (gla A t); omega)) (by first | omega | (have q9 := glo_b A t (gla A t); omega)) (by decide) rfl (fun hb73 => ?_) (fun hb73 => ?_)
      · replace hb73 := cq_ne.1.mp hb73
        refine e_step (pc' := 176) hK rfl rfl rfl ?_
        refine e_step (pc' := 178) hK rfl rfl rfl ?_
        try simp only [List.set_cons_zero, List.set_cons_succ]
        refine m_aheadW hR hI t h0 h1 hu hpx p hp hb73 (fun w2 b6 b7 hw2 g3 g4 => ?_) (xz (gL A (gla A t)) (p : Int)).toNat 0 w _ ⟨by omega, hw, hw4, by rw [g1]; exact (Int.add_zero _).symm, fun q q0 q1 => g2 q q0 (by omega)⟩
        refine e_step (pc' := 233) hK rfl rfl rfl ?_
        try simp only [List.set_cons_zero, List.set_cons_succ]
        refine e_goto (t := 58) hK rfl (by decide) ?_
        exact ih (p + 1) w2 _ _ ⟨by omega, fun b n1 n2 => (hw2.1 b n1 n2), hw2.2, g3, g4⟩
      · replace hb73 := cq_ne.2.mp hb73
        have k3 : xk (gL A (gla A t)) (p : Int) = 3 := hb73
        have hvp := hvb p (by omega) hp k3
        have hnt := nx_T (A := A) (l := gla A t) (p := (p : Int)) (by rw [egl]; exact hlx.2.2.1) (by omega) (by rw [egl]; exact hp) (by rw [egl]; exact k3) (by rw [egl]; exact hvp.2.1)
        rw [egl] at hnt
        have v1 := xv_b3 hlx.2.2.1 k3
        have dgb := dgn_b (ext6 (vb A (gla A t) p))
        refine e_step (pc' := 77) hK rfl rfl rfl ?_
        refine e_step (pc' := 78) hK rfl rfl rfl ?_
        refine e_getR (ci := 4) (k := 3) (pc' := 81) hK rfl (by simp (disch := omega) only [mH_t64, mH_r1, mH_r3, mH_r4, mH_r5, mH_r6, mH_r8, mH_r9, mH_r10, mH_r11, mH_r12, mH_r14, mH_i0, mH_i2, mH_i7, mH_i13, mH_i15, mH_t71, mH_t, mH_lr, mH_l65, mH_l69, mH_l70, mH_l71, mH_l72, mH_l73, mH_l74, mH_l75, mH_c, e66, e72, e73, e74, zk, z3]) rfl rfl (by decide) (by decide) (by (try simp (disch := omega) only [mH_t64, mH_r1, mH_r3, mH_r4, mH_r5, mH_r6, mH_r8, mH_r9, mH_r10, mH_r11, mH_r12, mH_r14, mH_i0, mH_i2, mH_i7, mH_i13, mH_i15, mH_t71, mH_t, mH_lr, mH_l65, mH_l69, mH_l70, mH_l71, mH_l72, mH_l73, mH_l74, mH_l75, mH_c, e66, e72, e73, e74, zk, z3]); first | omega | (have q9 := glo_b A t (gla A t); omega)) rfl ?_
        try simp (disch := omega) only [mH_t64, mH_r1, mH_r3, mH_r4, mH_r5, mH_r6, mH_r8, mH_r9, mH_r10, mH_r11, mH_r12, mH_r14, mH_i0, mH_i2, mH_i7, mH_i13, mH_i15, mH_t71, mH_t, mH_lr, mH_l65, mH_l69, mH_l70, mH_l71, mH_l72, mH_l73, mH_l74, mH_l75, mH_c, e66, e72, e73, e74, zk, z3]
        refine e_step (pc' := 83) hK rfl rfl rfl ?_
        refine e_cRV3 (z := 124) (pc' := 86) hK rfl rfl (by first | (simp (disch := omega) only [mH_t64, mH_r1, mH_r3, mH_r4, mH_r5, mH_r6, mH_r8, mH_r9, mH_r10, mH_r11, mH_r12, mH_r14, mH_i0, mH_i2, mH_i7, mH_i13, mH_i15, mH_t71, mH_t, mH_lr, mH_l65, mH_l69, mH_l70, mH_l71, mH_l72, mH_l73, mH_l74, mH_l75, mH_c, e66, e72, e73, e74, zk, z3]; rfl) | (show _ = 2; assumption) | (show _ = 1; assumption) | (show _ = 0; assumption) | (show _ = 3; assumption) | (show _ = 4; assumption)) rfl (Nat.le_of_ble_eq_true rfl) (Nat.le_of_ble_eq_true rfl) (m_val 266 (by omega) hpw k3) (by decide) rfl ?_
        try simp (disch := omega) only [mH_t64, mH_r1, mH_r3, mH_r4, mH_r5, mH_r6, mH_r8, mH_r9, mH_r10, mH_r11, mH_r12, mH_r14, mH_i0, mH_i2, mH_i7, mH_i13, mH_i15, mH_t71, mH_t, mH_lr, mH_l65, mH_l69, mH_l70, mH_l71, mH_l72, mH_l73, mH_l74, mH_l75, mH_c, e66, e72, e73, e74, zk, z3]
        refine e_step (pc' := 88) hK rfl rfl rfl ?_
        try simp only [List.set_cons_zero, List.set_cons_succ]
        refine e_step (pc' := 89) hK rfl rfl rfl ?_
        refine e_step (pc' := 92) hK rfl rfl rfl ?_
        refine e_icmp (t := 100) (pc' := 95) hK rfl (by first | omega | (have q9 := glo_b A t (gla A t); omega)) (by first | omega | (have q9 := glo_b A t (gla A t); omega)) (by decide) rfl (fun hb92 => ?_) (fun hb92 => ?_)
        · replace hb92 := cq_ne.1.mp hb92
          refine e_step (pc' := 101) hK rfl rfl rfl ?_
          refine e_step (pc' := 103) hK rfl rfl rfl ?_
          refine e_step (pc' := 104) hK rfl rfl rfl ?_
          have hgy := (glo_p A t (gla A t)).resolve_left hb92
          have k3y := hvp.2.2 hb92
          have v2 := xv_b3 (gLok hI hgy.1 hgy.2.2.1) k3y
          refine e_step (pc' := 105) hK rfl rfl rfl ?_
          refine e_step (pc' := 106) hK rfl rfl rfl ?_
          refine e_getR (ci := 4) (k := 3) (pc' := 109) hK rfl (by simp (disch := omega) only [mH_t64, mH_r1, mH_r3, mH_r4, mH_r5, mH_r6, mH_r8, mH_r9, mH_r10, mH_r11, mH_r12, mH_r14, mH_i0, mH_i2, mH_i7, mH_i13, mH_i15, mH_t71, mH_t, mH_lr, mH_l65, mH_l69, mH_l70, mH_l71, mH_l72, mH_l73, mH_l74, mH_l75, mH_c, e66, e72, e73, e74, zk, z3]) rfl rfl (by decide) (by decide) (by (try simp (disch := omega) only [mH_t64, mH_r1, mH_r3, mH_r4, mH_r5, mH_r6, mH_r8, mH_r9, mH_r10, mH_r11, mH_r12, mH_r14, mH_i0, mH_i2, mH_i7, mH_i13, mH_i15, mH_t71, mH_t, mH_lr, mH_l65, mH_l69, mH_l70, mH_l71, mH_l72, mH_l73, mH_l74, mH_l75, mH_c, e66, e72, e73, e74, zk, z3]); first | omega | (have q9 := glo_b A t (gla A t); omega)) rfl ?_
          try simp (disch := omega) only [mH_t64, mH_r1, mH_r3, mH_r4, mH_r5, mH_r6, mH_r8, mH_r9, mH_r10, mH_r11, mH_r12, mH_r14, mH_i0, mH_i2, mH_i7, mH_i13, mH_i15, mH_t71, mH_t, mH_lr, mH_l65, mH_l69, mH_l70, mH_l71, mH_l72, mH_l73, mH_l74, mH_l75, mH_c, e66, e72, e73, e74, zk, z3]
          refine e_step (pc' := 111) hK rfl rfl rfl ?_
          refine e_step (pc' := 113) hK rfl rfl rfl ?_
          refine e_step (pc' := 114) hK rfl rfl rfl ?_
          refine e_cRV3 (z := 124) (pc' := 117) hK rfl rfl (by first | (simp (disch := omega) only [mH_t64, mH_r1, mH_r3, mH_r4, mH_r5, mH_r6, mH_r8, mH_r9, mH_r10, mH_r11, mH_r12, mH_r14, mH_i0, mH_i2, mH_i7, mH_i13, mH_i15, mH_t71, mH_t, mH_lr, mH_l65, mH_l69, mH_l70, mH_l71, mH_l72, mH_l73, mH_l74, mH_l75, mH_c, e66, e72, e73, e74, zk, z3]; rfl) | (show _ = 2; assumption) | (show _ = 1; assumption) | (show _ = 0; assumption) | (show _ = 3; assumption) | (show _ = 4; assumption)) rfl (Nat.le_of_ble_eq_true rfl) (Nat.le_of_ble_eq_true rfl) (m_val 266 (by omega) (by { have hpp2 := hpy hb92 p (by omega) hp; unfold Pc at hpp2 ⊢; rw [e66, e72, e73, e74]; exact hpp2 }) k3y) (by decide) rfl ?_
          try simp (disch := omega) only [mH_t64, mH_r1, mH_r3, mH_r4, mH_r5, mH_r6, mH_r8, mH_r9, mH_r10, mH_r11, mH_r12, mH_r14, mH_i0, mH_i2, mH_i7, mH_i13, mH_i15, mH_t71, mH_t, mH_lr, mH_l65, mH_l69, mH_l70, mH_l71, mH_l72, mH_l73, mH_l74, mH_l75, mH_c, e66, e72, e73, e74, zk, z3]
          refine e_step (pc' := 118) hK rfl rfl rfl ?_
          have ev : 2 * xv (gL A (gla A t)) (p : Int) - xv (gL A (glo A t (gla A t))) (p : Int) = vb A (gla A t) p := by { rw [hvp.1, if_neg hb92] }
          rw [ev]
          refine e_step (pc' := 120) hK rfl rfl rfl ?_
          try simp only [List.set_cons_zero, List.set_cons_succ]
          refine e_step (pc' := 122) hK rfl rfl rfl ?_
          refine e_if (t := 129) (pc' := 125) hK rfl (by first | omega | (have q9 := glo_b A t (gla A t); omega)) (by decide) rfl (fun hb122 => ?_) (fun hb122 => ?_)
          · replace hb122 := cq_ge.1.mp hb122
            refine e_step (pc' := 131) hK rfl rfl rfl ?_
            refine e_step (pc' := 133) hK rfl rfl rfl ?_
            refine e_irem (pc' := 134) hK rfl (by first | omega | (have q9 := glo_b A t (gla A t); omega)) (by first | omega | (have q9 := glo_b A t (gla A t); omega)) (by first | omega | (have q9 := glo_b A t (gla A t); omega)) rfl ?_
            have eT : (vb A (gla A t) p).tmod 1000000 = ext6 (vb A (gla A t) p) := (if_pos (by omega)).symm
            rw [eT]
            refine e_step (pc' := 136) hK rfl rfl rfl ?_
            try simp only [List.set_cons_zero, List.set_cons_succ]
            refine e_step (pc' := 137) hK rfl rfl rfl ?_
            refine e_step (pc' := 139) hK rfl rfl rfl ?_
            refine e_step (pc' := 141) hK rfl rfl rfl ?_
            refine e_cRS1 (z := 174) (pc' := 144) hK rfl rfl rfl (Nat.le_of_ble_eq_true rfl) (Nat.le_of_ble_eq_true rfl) (m_digits (ext6 (vb A (gla A t) p)) hnt.1 (by omega)) (by decide) rfl ?_
            try simp (disch := omega) only [mH_t64, mH_r1, mH_r3, mH_r4, mH_r5, mH_r6, mH_r8, mH_r9, mH_r10, mH_r11, mH_r12, mH_r14, mH_i0, mH_i2, mH_i7, mH_i13, mH_i15, mH_t71, mH_t, mH_lr, mH_l65, mH_l69, mH_l70, mH_l71, mH_l72, mH_l73, mH_l74, mH_l75, mH_c, e66, e72, e73, e74, zk, z3]
            refine e_step (pc' := 145) hK rfl rfl rfl ?_
            refine e_getR (ci := 4) (k := 11) (pc' := 148) hK rfl (by simp (disch := omega) only [mH_t64, mH_r1, mH_r3, mH_r4, mH_r5, mH_r6, mH_r8, mH_r9, mH_r10, mH_r11, mH_r12, mH_r14, mH_i0, mH_i2, mH_i7, mH_i13, mH_i15, mH_t71, mH_t, mH_lr, mH_l65, mH_l69, mH_l70, mH_l71, mH_l72, mH_l73, mH_l74, mH_l75, mH_c, e66, e72, e73, e74, zk, z3]) rfl rfl (by decide) (by decide) (by (try simp (disch := omega) only [mH_t64, mH_r1, mH_r3, mH_r4, mH_r5, mH_r6, mH_r8, mH_r9, mH_r10, mH_r11, mH_r12, mH_r14, mH_i0, mH_i2, mH_i7, mH_i13, mH_i15, mH_t71, mH_t, mH_lr, mH_l65, mH_l69, mH_l70, mH_l71, mH_l72, mH_l73, mH_l74, mH_l75, mH_c, e66, e72, e73, e74, zk, z3]); first | omega | (have q9 := glo_b A t (gla A t); omega)) rfl ?_
            try simp (disch := omega) only [mH_t64, mH_r1, mH_r3, mH_r4, mH_r5, mH_r6, mH_r8, mH_r9, mH_r10, mH_r11, mH_r12, mH_r14, mH_i0, mH_i2, mH_i7, mH_i13, mH_i15, mH_t71, mH_t, mH_lr, mH_l65, mH_l69, mH_l70, mH_l71, mH_l72, mH_l73, mH_l74, mH_l75, mH_c, e66, e72, e73, e74, zk, z3]
            refine e_step (pc' := 150) hK rfl rfl rfl ?_
            refine e_iald (pc' := 151) hK rfl (by simp (disch := omega) only [mH_t64, mH_r1, mH_r3, mH_r4, mH_r5, mH_r6, mH_r8, mH_r9, mH_r10, mH_r11, mH_r12, mH_r14, mH_i0, mH_i2, mH_i7, mH_i13, mH_i15, mH_t71, mH_t, mH_lr, mH_l65, mH_l69, mH_l70, mH_l71, mH_l72, mH_l73, mH_l74, mH_l75, mH_c, e66, e72, e73, e74, zk, z3]) (by first | omega | (have q9 := glo_b A t (gla A t); omega)) (by (try simp (disch := omega) only [mH_t64, mH_r1, mH_r3, mH_r4, mH_r5, mH_r6, mH_r8, mH_r9, mH_r10, mH_r11, mH_r12, mH_r14, mH_i0, mH_i2, mH_i7, mH_i13, mH_i15, mH_t71, mH_t, mH_lr, mH_l65, mH_l69, mH_l70, mH_l71, mH_l72, mH_l73, mH_l74, mH_l75, mH_c, e66, e72, e73, e74, zk, z3]); first | omega | (have q9 := glo_b A t (gla A t); omega)) rfl ?_
            try simp (disch := omega) only [mH_t64, mH_r1, mH_r3, mH_r4, mH_r5, mH_r6, mH_r8, mH_r9, mH_r10, mH_r11, mH_r12, mH_r14, mH_i0, mH_i2, mH_i7, mH_i13, mH_i15, mH_t71, mH_t, mH_lr, mH_l65, mH_l69, mH_l70, mH_l71, mH_l72, mH_l73, mH_l74, mH_l75, mH_c, e66, e72, e73, e74, zk, z3]
            refine e_icmp (t := 162) (pc' := 154) hK rfl (by first | omega | (have q9 := glo_b A t (gla A t); omega)) (by first | omega | (have q9 := glo_b A t (gla A t); omega)) (by decide) rfl (fun hb151 => ?_) (fun hb151 => ?_)
            · replace hb151 := cq_le.1.mp hb151
              refine e_step (pc' := 163) hK rfl rfl rfl ?_
              refine e_getR (ci := 4) (k := 11) (pc' := 166) hK rfl (by simp (disch := omega) only [mH_t64, mH_r1, mH_r3, mH_r4, mH_r5, mH_r6, mH_r8, mH_r9, mH_r10, mH_r11, mH_r12, mH_r14, mH_i0, mH_i2, mH_i7, mH_i13, mH_i15, mH_t71, mH_t, mH_lr, mH_l65, mH_l69, mH_l70, mH_l71, mH_l72, mH_l73, mH_l74, mH_l75, mH_c, e66, e72, e73, e74, zk, z3]) rfl rfl (by decide) (by decide) (by (try simp (disch := omega) only [mH_t64, mH_r1, mH_r3, mH_r4, mH_r5, mH_r6, mH_r8, mH_r9, mH_r10, mH_r11, mH_r12, mH_r14, mH_i0, mH_i2, mH_i7, mH_i13, mH_i15, mH_t71, mH_t, mH_lr, mH_l65, mH_l69, mH_l70, mH_l71, mH_l72, mH_l73, mH_l74, mH_l75, mH_c, e66, e72, e73, e74, zk, z3]); first | omega | (have q9 := glo_b A t (gla A t); omega)) rfl ?_
              try simp (disch := omega) only [mH_t64, mH_r1, mH_r3, mH_r4, mH_r5, mH_r6, mH_r8, mH_r9, mH_r10, mH_r11, mH_r12, mH_r14, mH_i0, mH_i2, mH_i7, mH_i13, mH_i15, mH_t71, mH_t, mH_lr, mH_l65, mH_l69, mH_l70, mH_l71, mH_l72, mH_l73, mH_l74, mH_l75, mH_c, e66, e72, e73, e74, zk, z3]
              refine e_step (pc' := 168) hK rfl rfl rfl ?_
              refine e_iald (pc' := 169) hK rfl (by simp (disch := omega) only [mH_t64, mH_r1, mH_r3, mH_r4, mH_r5, mH_r6, mH_r8, mH_r9, mH_r10, mH_r11, mH_r12, mH_r14, mH_i0, mH_i2, mH_i7, mH_i13, mH_i15, mH_t71, mH_t, mH_lr, mH_l65, mH_l69, mH_l70, mH_l71, mH_l72, mH_l73, mH_l74, mH_l75, mH_c, e66, e72, e73, e74, zk, z3]) (by first | omega | (have q9 := glo_b A t (gla A t); omega)) (by (try simp (disch := omega) only [mH_t64, mH_r1, mH_r3, mH_r4, mH_r5, mH_r6, mH_r8, mH_r9, mH_r10, mH_r11, mH_r12, mH_r14, mH_i0, mH_i2, mH_i7, mH_i13, mH_i15, mH_t71, mH_t, mH_lr, mH_l65, mH_l69, mH_l70, mH_l71, mH_l72, mH_l73, mH_l74, mH_l75, mH_c, e66, e72, e73, e74, zk, z3]); first | omega | (have q9 := glo_b A t (gla A t); omega)) rfl ?_
              try simp (disch := omega) only [mH_t64, mH_r1, mH_r3, mH_r4, mH_r5, mH_r6, mH_r8, mH_r9, mH_r10, mH_r11, mH_r12, mH_r14, mH_i0, mH_i2, mH_i7, mH_i13, mH_i15, mH_t71, mH_t, mH_lr, mH_l65, mH_l69, mH_l70, mH_l71, mH_l72, mH_l73, mH_l74, mH_l75, mH_c, e66, e72, e73, e74, zk, z3]
              have eD : xz (gL A (gla A t)) (p : Int) = ((ezs A (gla A t) (p : Int)).toNat : Int) := by { have q9 := hnt.2.2.1; rw [if_pos (by omega)] at q9; omega }
              rw [eD]
              refine e_cQV3 (z := 175) hK rfl rfl (by first | (simp (disch := omega) only [mH_t64, mH_r1, mH_r3, mH_r4, mH_r5, mH_r6, mH_r8, mH_r9, mH_r10, mH_r11, mH_r12, mH_r14, mH_i0, mH_i2, mH_i7, mH_i13, mH_i15, mH_t71, mH_t, mH_lr, mH_l65, mH_l69, mH_l70, mH_l71, mH_l72, mH_l73, mH_l74, mH_l75, mH_c, e66, e72, e73, e74, zk, z3]; rfl) | (show _ = 2; assumption) | (show _ = 1; assumption) | (show _ = 0; assumption) | (show _ = 3; assumption) | (show _ = 4; assumption)) rfl (Nat.le_of_ble_eq_true rfl) (Nat.le_of_ble_eq_true rfl) (m_write (ext6 (vb A (gla A t) p)) hnt.1 (by omega) (ezs A (gla A t) (p : Int)).toNat (by omega) (npos A (gla A t) p) g1 (by omega) (by omega)) ?_
              rintro _ _ _ ⟨rfl, rfl, w2, rfl, x1, x2, x3, x4⟩
              refine ⟨by decide, ?_⟩
              rw [if_pos rfl]
              try dsimp only
              show mv_Ev _ _ 172 _ _ _ _ _
              refine e_goto (t := 230) hK rfl (by decide) ?_
              refine e_step (pc' := 233) hK rfl rfl rfl ?_
              try simp only [List.set_cons_zero, List.set_cons_succ]
              refine e_goto (t := 58) hK rfl (by decide) ?_
              refine ih (p + 1) w2 _ _ ⟨by omega, fun b n1 n2 => (x1 b n1 n2).trans (hw b n1 n2), fun k n1 => (x2 k n1).trans (hw4 k n1), ?_, fun q q0 q1 => ?_⟩
              · rw [x3]; show _ = npos A (gla A t) p + ezs A (gla A t) p; omega
              · have q1 : q < npos A (gla A t) p + ezs A (gla A t) p := q1
                rw [x4 q]
                by_cases e : npos A (gla A t) p ≤ q
                · rw [if_pos (by omega), exl_in (p := p) hz0 (by omega) e q1, egl, if_pos k3, show ((ezs A (gla A t) (p : Int)).toNat : Int) = ezs A (gla A t) p from by omega]
                  exact hnt.2.2.2.1 _ (by omega) (by omega)
                · rw [if_neg (by omega)]; exact g2 q q0 (by omega)
            · replace hb151 := cq_le.2.mp hb151
              refine e_step (pc' := 156) hK rfl rfl rfl ?_
              refine e_cRS1 (z := 174) (pc' := 159) hK rfl rfl rfl (Nat.le_of_ble_eq_true rfl) (Nat.le_of_ble_eq_true rfl) (m_digits (ext6 (vb A (gla A t) p)) hnt.1 (by omega)) (by decide) rfl ?_
              try simp (disch := omega) only [mH_t64, mH_r1, mH_r3, mH_r4, mH_r5, mH_r6, mH_r8, mH_r9, mH_r10, mH_r11, mH_r12, mH_r14, mH_i0, mH_i2, mH_i7, mH_i13, mH_i15, mH_t71, mH_t, mH_lr, mH_l65, mH_l69, mH_l70, mH_l71, mH_l72, mH_l73, mH_l74, mH_l75, mH_c, e66, e72, e73, e74, zk, z3]
              refine e_goto (t := 169) hK rfl (by decide) ?_
              have eD : dgn (ext6 (vb A (gla A t) p)) = ((ezs A (gla A t) (p : Int)).toNat : Int) := by { have q9 := hnt.2.2.1; rw [if_neg (by omega)] at q9; omega }
              rw [eD]
              refine e_cQV3 (z := 175) hK rfl rfl (by first | (simp (disch := omega) only [mH_t64, mH_r1, mH_r3, mH_r4, mH_r5, mH_r6, mH_r8, mH_r9, mH_r10, mH_r11, mH_r12, mH_r14, mH_i0, mH_i2, mH_i7, mH_i13, mH_i15, mH_t71, mH_t, mH_lr, mH_l65, mH_l69, mH_l70, mH_l71, mH_l72, mH_l73, mH_l74, mH_l75, mH_c, e66, e72, e73, e74, zk, z3]; rfl) | (show _ = 2; assumption) | (show _ = 1; assumption) | (show _ = 0; assumption) | (show _ = 3; assumption) | (show _ = 4; assumption)) rfl (Nat.le_of_ble_eq_true rfl) (Nat.le_of_ble_eq_true rfl) (m_write (ext6 (vb A (gla A t) p)) hnt.1 (by omega) (ezs A (gla A t) (p : Int)).toNat (by omega) (npos A (gla A t) p) g1 (by omega) (by omega)) ?_
              rintro _ _ _ ⟨rfl, rfl, w2, rfl, x1, x2, x3, x4⟩
              refine ⟨by decide, ?_⟩
              rw [if_pos rfl]
              try dsimp only
              show mv_Ev _ _ 172 _ _ _ _ _
              refine e_goto (t := 230) hK rfl (by decide) ?_
              refine e_step (pc' := 233) hK rfl rfl rfl ?_
              try simp only [List.set_cons_zero, List.set_cons_succ]
              refine e_goto (t := 58) hK rfl (by decide) ?_
              refine ih (p + 1) w2 _ _ ⟨by omega, fun b n1 n2 => (x1 b n1 n2).trans (hw b n1 n2), fun k n1 => (x2 k n1).trans (hw4 k n1), ?_, fun q q0 q1 => ?_⟩
              · rw [x3]; show _ = npos A (gla A t) p + ezs A (gla A t) p; omega
              · have q1 : q < npos A (gla A t) p + ezs A (gla A t) p := q1
                rw [x4 q]
                by_cases e : npos A (gla A t) p ≤ q
                · rw [if_pos (by omega), exl_in (p := p) hz0 (by omega) e q1, egl, if_pos k3, show ((ezs A (gla A t) (p : Int)).toNat : Int) = ezs A (gla A t) p from by omega]
                  exact hnt.2.2.2.1 _ (by omega) (by omega)
                · rw [if_neg (by omega)]; exact g2 q q0 (by omega)
          · replace hb122 := cq_ge.2.mp hb122
            refine e_step (pc' := 126) hK rfl rfl rfl ?_
            refine e_goto (t := 134) hK rfl (by decide) ?_
            have eT : (0 : Int) = ext6 (vb A (gla A t) p) := (if_neg (by omega)).symm
            rw [show ((0, 0) : mv_V) = (0, ext6 (vb A (gla A t) p)) from by rw [← eT]]
            refine e_step (pc' := 136) hK rfl rfl rfl ?_
            try simp only [List.set_cons_zero, List.set_cons_succ]
            refine e_step (pc' := 137) hK rfl rfl rfl ?_
            refine e_step (pc' := 139) hK rfl rfl rfl ?_
            refine e_step (pc' := 141) hK rfl rfl rfl ?_
            refine e_cRS1 (z := 174) (pc' := 144) hK rfl rfl rfl (Nat.le_of_ble_eq_true rfl) (Nat.le_of_ble_eq_true rfl) (m_digits (ext6 (vb A (gla A t) p)) hnt.1 (by omega)) (by decide) rfl ?_
            try simp (disch := omega) only [mH_t64, mH_r1, mH_r3, mH_r4, mH_r5, mH_r6, mH_r8, mH_r9, mH_r10, mH_r11, mH_r12, mH_r14, mH_i0, mH_i2, mH_i7, mH_i13, mH_i15, mH_t71, mH_t, mH_lr, mH_l65, mH_l69, mH_l70, mH_l71, mH_l72, mH_l73, mH_l74, mH_l75, mH_c, e66, e72, e73, e74, zk, z3]
            refine e_step (pc' := 145) hK rfl rfl rfl ?_
            refine e_getR (ci := 4) (k := 11) (pc' := 148) hK rfl (by simp (disch := omega) only [mH_t64, mH_r1, mH_r3, mH_r4, mH_r5, mH_r6, mH_r8, mH_r9, mH_r10, mH_r11, mH_r12, mH_r14, mH_i0, mH_i2, mH_i7, mH_i13, mH_i15, mH_t71, mH_t, mH_lr, mH_l65, mH_l69, mH_l70, mH_l71, mH_l72, mH_l73, mH_l74, mH_l75, mH_c, e66, e72, e73, e74, zk, z3]) rfl rfl (by decide) (by decide) (by (try simp (disch := omega) only [mH_t64, mH_r1, mH_r3, mH_r4, mH_r5, mH_r6, mH_r8, mH_r9, mH_r10, mH_r11, mH_r12, mH_r14, mH_i0, mH_i2, mH_i7, mH_i13, mH_i15, mH_t71, mH_t, mH_lr, mH_l65, mH_l69, mH_l70, mH_l71, mH_l72, mH_l73, mH_l74, mH_l75, mH_c, e66, e72, e73, e74, zk, z3]); first | omega | (have q9 := glo_b A t (gla A t); omega)) rfl ?_
            try simp (disch := omega) only [mH_t64, mH_r1, mH_r3, mH_r4, mH_r5, mH_r6, mH_r8, mH_r9, mH_r10, mH_r11, mH_r12, mH_r14, mH_i0, mH_i2, mH_i7, mH_i13, mH_i15, mH_t71, mH_t, mH_lr, mH_l65, mH_l69, mH_l70, mH_l71, mH_l72, mH_l73, mH_l74, mH_l75, mH_c, e66, e72, e73, e74, zk, z3]
            refine e_step (pc' := 150) hK rfl rfl rfl ?_
            refine e_iald (pc' := 151) hK rfl (by simp (disch := omega) only [mH_t64, mH_r1, mH_r3, mH_r4, mH_r5, mH_r6, mH_r8, mH_r9, mH_r10, mH_r11, mH_r12, mH_r14, mH_i0, mH_i2, mH_i7, mH_i13, mH_i15, mH_t71, mH_t, mH_lr, mH_l65, mH_l69, mH_l70, mH_l71, mH_l72, mH_l73, mH_l74, mH_l75, mH_c, e66, e72, e73, e74, zk, z3]) (by first | omega | (have q9 := glo_b A t (gla A t); omega)) (by (try simp (disch := omega) only [mH_t64, mH_r1, mH_r3, mH_r4, mH_r5, mH_r6, mH_r8, mH_r9, mH_r10, mH_r11, mH_r12, mH_r14, mH_i0, mH_i2, mH_i7, mH_i13, mH_i15, mH_t71, mH_t, mH_lr, mH_l65, mH_l69, mH_l70, mH_l71, mH_l72, mH_l73, mH_l74, mH_l75, mH_c, e66, e72, e73, e74, zk, z3]); first | omega | (have q9 := glo_b A t (gla A t); omega)) rfl ?_
            try simp (disch := omega) only [mH_t64, mH_r1, mH_r3, mH_r4, mH_r5, mH_r6, mH_r8, mH_r9, mH_r10, mH_r11, mH_r12, mH_r14, mH_i0, mH_i2, mH_i7, mH_i13, mH_i15, mH_t71, mH_t, mH_lr, mH_l65, mH_l69, mH_l70, mH_l71, mH_l72, mH_l73, mH_l74, mH_l75, mH_c, e66, e72, e73, e74, zk, z3]
            refine e_icmp (t := 162) (pc' := 154) hK rfl (by first | omega | (have q9 := glo_b A t (gla A t); omega)) (by first | omega | (have q9 := glo_b A t (gla A t); omega)) (by decide) rfl (fun hb151 => ?_) (fun hb151 => ?_)
            · replace hb151 := cq_le.1.mp hb151
              refine e_step (pc' := 163) hK rfl rfl rfl ?_
              refine e_getR (ci := 4) (k := 11) (pc' := 166) hK rfl (by simp (disch := omega) only [mH_t64, mH_r1, mH_r3, mH_r4, mH_r5, mH_r6, mH_r8, mH_r9, mH_r10, mH_r11, mH_r12, mH_r14, mH_i0, mH_i2, mH_i7, mH_i13, mH_i15, mH_t71, mH_t, mH_lr, mH_l65, mH_l69, mH_l70, mH_l71, mH_l72, mH_l73, mH_l74, mH_l75, mH_c, e66, e72, e73, e74, zk, z3]) rfl rfl (by decide) (by decide) (by (try simp (disch := omega) only [mH_t64, mH_r1, mH_r3, mH_r4, mH_r5, mH_r6, mH_r8, mH_r9, mH_r10, mH_r11, mH_r12, mH_r14, mH_i0, mH_i2, mH_i7, mH_i13, mH_i15, mH_t71, mH_t, mH_lr, mH_l65, mH_l69, mH_l70, mH_l71, mH_l72, mH_l73, mH_l74, mH_l75, mH_c, e66, e72, e73, e74, zk, z3]); first | omega | (have q9 := glo_b A t (gla A t); omega)) rfl ?_
              try simp (disch := omega) only [mH_t64, mH_r1, mH_r3, mH_r4, mH_r5, mH_r6, mH_r8, mH_r9, mH_r10, mH_r11, mH_r12, mH_r14, mH_i0, mH_i2, mH_i7, mH_i13, mH_i15, mH_t71, mH_t, mH_lr, mH_l65, mH_l69, mH_l70, mH_l71, mH_l72, mH_l73, mH_l74, mH_l75, mH_c, e66, e72, e73, e74, zk, z3]
              refine e_step (pc' := 168) hK rfl rfl rfl ?_
              refine e_iald (pc' := 169) hK rfl (by simp (disch := omega) only [mH_t64, mH_r1, mH_r3, mH_r4, mH_r5, mH_r6, mH_r8, mH_r9, mH_r10, mH_r11, mH_r12, mH_r14, mH_i0, mH_i2, mH_i7, mH_i13, mH_i15, mH_t71, mH_t, mH_lr, mH_l65, mH_l69, mH_l70, mH_l71, mH_l72, mH_l73, mH_l74, mH_l75, mH_c, e66, e72, e73, e74, zk, z3]) (by first | omega | (have q9 := glo_b A t (gla A t); omega)) (by (try simp (disch := omega) only [mH_t64, mH_r1, mH_r3, mH_r4, mH_r5, mH_r6, mH_r8, mH_r9, mH_r10, mH_r11, mH_r12, mH_r14, mH_i0, mH_i2, mH_i7, mH_i13, mH_i15, mH_t71, mH_t, mH_lr, mH_l65, mH_l69, mH_l70, mH_l71, mH_l72, mH_l73, mH_l74, mH_l75, mH_c, e66, e72, e73, e74, zk, z3]); first | omega | (have q9 := glo_b A t (gla A t); omega)) rfl ?_
              try simp (disch := omega) only [mH_t64, mH_r1, mH_r3, mH_r4, mH_r5, mH_r6, mH_r8, mH_r9, mH_r10, mH_r11, mH_r12, mH_r14, mH_i0, mH_i2, mH_i7, mH_i13, mH_i15, mH_t71, mH_t, mH_lr, mH_l65, mH_l69, mH_l70, mH_l71, mH_l72, mH_l73, mH_l74, mH_l75, mH_c, e66, e72, e73, e74, zk, z3]
              have eD : xz (gL A (gla A t)) (p : Int) = ((ezs A (gla A t) (p : Int)).toNat : Int) := by { have q9 := hnt.2.2.1; rw [if_pos (by omega)] at q9; omega }
              rw [eD]
              refine e_cQV3 (z := 175) hK rfl rfl (by first | (simp (disch := omega) only [mH_t64, mH_r1, mH_r3, mH_r4, mH_r5, mH_r6, mH_r8, mH_r9, mH_r10, mH_r11, mH_r12, mH_r14, mH_i0, mH_i2, mH_i7, mH_i13, mH_i15, mH_t71, mH_t, mH_lr, mH_l65, mH_l69, mH_l70, mH_l71, mH_l72, mH_l73, mH_l74, mH_l75, mH_c, e66, e72, e73, e74, zk, z3]; rfl) | (show _ = 2; assumption) | (show _ = 1; assumption) | (show _ = 0; assumption) | (show _ = 3; assumption) | (show _ = 4; assumption)) rfl (Nat.le_of_ble_eq_true rfl) (Nat.le_of_ble_eq_true rfl) (m_write (ext6 (vb A (gla A t) p)) hnt.1 (by omega) (ezs A (gla A t) (p : Int)).toNat (by omega) (npos A (gla A t) p) g1 (by omega) (by omega)) ?_
              rintro _ _ _ ⟨rfl, rfl, w2, rfl, x1, x2, x3, x4⟩
              refine ⟨by decide, ?_⟩
              rw [if_pos rfl]
              try dsimp only
              show mv_Ev _ _ 172 _ _ _ _ _
              refine e_goto (t := 230) hK rfl (by decide) ?_
              refine e_step (pc' := 233) hK rfl rfl rfl ?_
              try simp only [List.set_cons_zero, List.set_cons_succ]
              refine e_goto (t := 58) hK rfl (by decide) ?_
              refine ih (p + 1) w2 _ _ ⟨by omega, fun b n1 n2 => (x1 b n1 n2).trans (hw b n1 n2), fun k n1 => (x2 k n1).trans (hw4 k n1), ?_, fun q q0 q1 => ?_⟩
              · rw [x3]; show _ = npos A (gla A t) p + ezs A (gla A t) p; omega
              · have q1 : q < npos A (gla A t) p + ezs A (gla A t) p := q1
                rw [x4 q]
                by_cases e : npos A (gla A t) p ≤ q
                · rw [if_pos (by omega), exl_in (p := p) hz0 (by omega) e q1, egl, if_pos k3, show ((ezs A (gla A t) (p : Int)).toNat : Int) = ezs A (gla A t) p from by omega]
                  exact hnt.2.2.2.1 _ (by omega) (by omega)
                · rw [if_neg (by omega)]; exact g2 q q0 (by omega)
            · replace hb151 := cq_le.2.mp hb151
              refine e_step (pc' := 156) hK rfl rfl rfl ?_
              refine e_cRS1 (z := 174) (pc' := 159) hK rfl rfl rfl (Nat.le_of_ble_eq_true rfl) (Nat.le_of_ble_eq_true rfl) (m_digits (ext6 (vb A (gla A t) p)) hnt.1 (by omega)) (by decide) rfl ?_
              try simp (disch := omega) only [mH_t64, mH_r1, mH_r3, mH_r4, mH_r5, mH_r6, mH_r8, mH_r9, mH_r10, mH_r11, mH_r12, mH_r14, mH_i0, mH_i2, mH_i7, mH_i13, mH_i15, mH_t71, mH_t, mH_lr, mH_l65, mH_l69, mH_l70, mH_l71, mH_l72, mH_l73, mH_l74, mH_l75, mH_c, e66, e72, e73, e74, zk, z3]
              refine e_goto (t := 169) hK rfl (by decide) ?_
              have eD : dgn (ext6 (vb A (gla A t) p)) = ((ezs A (gla A t) (p : Int)).toNat : Int) := by { have q9 := hnt.2.2.1; rw [if_neg (by omega)] at q9; omega }
              rw [eD]
              refine e_cQV3 (z := 175) hK rfl rfl (by first | (simp (disch := omega) only [mH_t64, mH_r1, mH_r3, mH_r4, mH_r5, mH_r6, mH_r8, mH_r9, mH_r10, mH_r11, mH_r12, mH_r14, mH_i0, mH_i2, mH_i7, mH_i13, mH_i15, mH_t71, mH_t, mH_lr, mH_l65, mH_l69, mH_l70, mH_l71, mH_l72, mH_l73, mH_l74, mH_l75, mH_c, e66, e72, e73, e74, zk, z3]; rfl) | (show _ = 2; assumption) | (show _ = 1; assumption) | (show _ = 0; assumption) | (show _ = 3; assumption) | (show _ = 4; assumption)) rfl (Nat.le_of_ble_eq_true rfl) (Nat.le_of_ble_eq_true rfl) (m_write (ext6 (vb A (gla A t) p)) hnt.1 (by omega) (ezs A (gla A t) (p : Int)).toNat (by omega) (npos A (gla A t) p) g1 (by omega) (by omega)) ?_
              rintro _ _ _ ⟨rfl, rfl, w2, rfl, x1, x2, x3, x4⟩
              refine ⟨by decide, ?_⟩
              rw [if_pos rfl]
              try dsimp only
              show mv_Ev _ _ 172 _ _ _ _ _
              refine e_goto (t := 230) hK rfl (by decide) ?_
              refine e_step (pc' := 233) hK rfl rfl rfl ?_
              try simp only [List.set_cons_zero, List.set_cons_succ]
              refine e_goto (t := 58) hK rfl (by decide) ?_
              refine ih (p + 1) w2 _ _ ⟨by omega, fun b n1 n2 => (x1 b n1 n2).trans (hw b n1 n2), fun k n1 => (x2 k n1).trans (hw4 k n1), ?_, fun q q0 q1 => ?_⟩
              · rw [x3]; show _ = npos A (gla A t) p + ezs A (gla A t) p; omega
              · have q1 : q < npos A (gla A t) p + ezs A (gla A t) p := q1
                rw [x4 q]
                by_cases e : npos A (gla A t) p ≤ q
                · rw [if_pos (by omega), exl_in (p := p) hz0 (by omega) e q1, egl, if_pos k3, show ((ezs A (gla A t) (p : Int)).toNat : Int) = ezs A (gla A t) p from by omega]
                  exact hnt.2.2.2.1 _ (by omega) (by omega)
                · rw [if_neg (by omega)]; exact g2 q q0 (by omega)
        · replace hb92 := cq_ne.2.mp hb92
          refine e_step (pc' := 97) hK rfl rfl rfl ?_
          refine e_goto (t := 118) hK rfl (by decide) ?_
          have ev : xv (gL A (gla A t)) (p : Int) = vb A (gla A t) p := by { rw [hvp.1, if_pos hb92] }
          rw [ev]
          refine e_step (pc' := 120) hK rfl rfl rfl ?_
          try simp only [List.set_cons_zero, List.set_cons_succ]
          refine e_step (pc' := 122) hK rfl rfl rfl ?_
          refine e_if (t := 129) (pc' := 125) hK rfl (by first | omega | (have q9 := glo_b A t (gla A t); omega)) (by decide) rfl (fun hb122 => ?_) (fun hb122 => ?_)
          · replace hb122 := cq_ge.1.mp hb122
            refine e_step (pc' := 131) hK rfl rfl rfl ?_
            refine e_step (pc' := 133) hK rfl rfl rfl ?_
            refine e_irem (pc' := 134) hK rfl (by first | omega | (have q9 := glo_b A t (gla A t); omega)) (by first | omega | (have q9 := glo_b A t (gla A t); omega)) (by first | omega | (have q9 := glo_b A t (gla A t); omega)) rfl ?_
            have eT : (vb A (gla A t) p).tmod 1000000 = ext6 (vb A (gla A t) p) := (if_pos (by omega)).symm
            rw [eT]
            refine e_step (pc' := 136) hK rfl rfl rfl ?_
            try simp only [List.set_cons_zero, List.set_cons_succ]
            refine e_step (pc' := 137) hK rfl rfl rfl ?_
            refine e_step (pc' := 139) hK rfl rfl rfl ?_
            refine e_step (pc' := 141) hK rfl rfl rfl ?_
            refine e_cRS1 (z := 174) (pc' := 144) hK rfl rfl rfl (Nat.le_of_ble_eq_true rfl) (Nat.le_of_ble_eq_true rfl) (m_digits (ext6 (vb A (gla A t) p)) hnt.1 (by omega)) (by decide) rfl ?_
            try simp (disch := omega) only [mH_t64, mH_r1, mH_r3, mH_r4, mH_r5, mH_r6, mH_r8, mH_r9, mH_r10, mH_r11, mH_r12, mH_r14, mH_i0, mH_i2, mH_i7, mH_i13, mH_i15, mH_t71, mH_t, mH_lr, mH_l65, mH_l69, mH_l70, mH_l71, mH_l72, mH_l73, mH_l74, mH_l75, mH_c, e66, e72, e73, e74, zk, z3]
            refine e_step (pc' := 145) hK rfl rfl rfl ?_
            refine e_getR (ci := 4) (k := 11) (pc' := 148) hK rfl (by simp (disch := omega) only [mH_t64, mH_r1, mH_r3, mH_r4, mH_r5, mH_r6, mH_r8, mH_r9, mH_r10, mH_r11, mH_r12, mH_r14, mH_i0, mH_i2, mH_i7, mH_i13, mH_i15, mH_t71, mH_t, mH_lr, mH_l65, mH_l69, mH_l70, mH_l71, mH_l72, mH_l73, mH_l74, mH_l75, mH_c, e66, e72, e73, e74, zk, z3]) rfl rfl (by decide) (by decide) (by (try simp (disch := omega) only [mH_t64, mH_r1, mH_r3, mH_r4, mH_r5, mH_r6, mH_r8, mH_r9, mH_r10, mH_r11, mH_r12, mH_r14, mH_i0, mH_i2, mH_i7, mH_i13, mH_i15, mH_t71, mH_t, mH_lr, mH_l65, mH_l69, mH_l70, mH_l71, mH_l72, mH_l73, mH_l74, mH_l75, mH_c, e66, e72, e73, e74, zk, z3]); first | omega | (have q9 := glo_b A t (gla A t); omega)) rfl ?_
            try simp (disch := omega) only [mH_t64, mH_r1, mH_r3, mH_r4, mH_r5, mH_r6, mH_r8, mH_r9, mH_r10, mH_r11, mH_r12, mH_r14, mH_i0, mH_i2, mH_i7, mH_i13, mH_i15, mH_t71, mH_t, mH_lr, mH_l65, mH_l69, mH_l70, mH_l71, mH_l72, mH_l73, mH_l74, mH_l75, mH_c, e66, e72, e73, e74, zk, z3]
            refine e_step (pc' := 150) hK rfl rfl rfl ?_
            refine e_iald (pc' := 151) hK rfl (by simp (disch := omega) only [mH_t64, mH_r1, mH_r3, mH_r4, mH_r5, mH_r6, mH_r8, mH_r9, mH_r10, mH_r11, mH_r12, mH_r14, mH_i0, mH_i2, mH_i7, mH_i13, mH_i15, mH_t71, mH_t, mH_lr, mH_l65, mH_l69, mH_l70, mH_l71, mH_l72, mH_l73, mH_l74, mH_l75, mH_c, e66, e72, e73, e74, zk, z3]) (by first | omega | (have q9 := glo_b A t (gla A t); omega)) (by (try simp (disch := omega) only [mH_t64, mH_r1, mH_r3, mH_r4, mH_r5, mH_r6, mH_r8, mH_r9, mH_r10, mH_r11, mH_r12, mH_r14, mH_i0, mH_i2, mH_i7, mH_i13, mH_i15, mH_t71, mH_t, mH_lr, mH_l65, mH_l69, mH_l70, mH_l71, mH_l72, mH_l73, mH_l74, mH_l75, mH_c, e66, e72, e73, e74, zk, z3]); first | omega | (have q9 := glo_b A t (gla A t); omega)) rfl ?_
            try simp (disch := omega) only [mH_t64, mH_r1, mH_r3, mH_r4, mH_r5, mH_r6, mH_r8, mH_r9, mH_r10, mH_r11, mH_r12, mH_r14, mH_i0, mH_i2, mH_i7, mH_i13, mH_i15, mH_t71, mH_t, mH_lr, mH_l65, mH_l69, mH_l70, mH_l71, mH_l72, mH_l73, mH_l74, mH_l75, mH_c, e66, e72, e73, e74, zk, z3]
            refine e_icmp (t := 162) (pc' := 154) hK rfl (by first | omega | (have q9 := glo_b A t (gla A t); omega)) (by first | omega | (have q9 := glo_b A t (gla A t); omega)) (by decide) rfl (fun hb151 => ?_) (fun hb151 => ?_)
            · replace hb151 := cq_le.1.mp hb151
              refine e_step (pc' := 163) hK rfl rfl rfl ?_
              refine e_getR (ci := 4) (k := 11) (pc' := 166) hK rfl (by simp (disch := omega) only [mH_t64, mH_r1, mH_r3, mH_r4, mH_r5, mH_r6, mH_r8, mH_r9, mH_r10, mH_r11, mH_r12, mH_r14, mH_i0, mH_i2, mH_i7, mH_i13, mH_i15, mH_t71, mH_t, mH_lr, mH_l65, mH_l69, mH_l70, mH_l71, mH_l72, mH_l73, mH_l74, mH_l75, mH_c, e66, e72, e73, e74, zk, z3]) rfl rfl (by decide) (by decide) (by (try simp (disch := omega) only [mH_t64, mH_r1, mH_r3, mH_r4, mH_r5, mH_r6, mH_r8, mH_r9, mH_r10, mH_r11, mH_r12, mH_r14, mH_i0, mH_i2, mH_i7, mH_i13, mH_i15, mH_t71, mH_t, mH_lr, mH_l65, mH_l69, mH_l70, mH_l71, mH_l72, mH_l73, mH_l74, mH_l75, mH_c, e66, e72, e73, e74, zk, z3]); first | omega | (have q9 := glo_b A t (gla A t); omega)) rfl ?_
              try simp (disch := omega) only [mH_t64, mH_r1, mH_r3, mH_r4, mH_r5, mH_r6, mH_r8, mH_r9, mH_r10, mH_r11, mH_r12, mH_r14, mH_i0, mH_i2, mH_i7, mH_i13, mH_i15, mH_t71, mH_t, mH_lr, mH_l65, mH_l69, mH_l70, mH_l71, mH_l72, mH_l73, mH_l74, mH_l75, mH_c, e66, e72, e73, e74, zk, z3]
              refine e_step (pc' := 168) hK rfl rfl rfl ?_
              refine e_iald (pc' := 169) hK rfl (by simp (disch := omega) only [mH_t64, mH_r1, mH_r3, mH_r4, mH_r5, mH_r6, mH_r8, mH_r9, mH_r10, mH_r11, mH_r12, mH_r14, mH_i0, mH_i2, mH_i7, mH_i13, mH_i15, mH_t71, mH_t, mH_lr, mH_l65, mH_l69, mH_l70, mH_l71, mH_l72, mH_l73, mH_l74, mH_l75, mH_c, e66, e72, e73, e74, zk, z3]) (by first | omega | (have q9 := glo_b A t (gla A t); omega)) (by (try simp (disch := omega) only [mH_t64, mH_r1, mH_r3, mH_r4, mH_r5, mH_r6, mH_r8, mH_r9, mH_r10, mH_r11, mH_r12, mH_r14, mH_i0, mH_i2, mH_i7, mH_i13, mH_i15, mH_t71, mH_t, mH_lr, mH_l65, mH_l69, mH_l70, mH_l71, mH_l72, mH_l73, mH_l74, mH_l75, mH_c, e66, e72, e73, e74, zk, z3]); first | omega | (have q9 := glo_b A t (gla A t); omega)) rfl ?_
              try simp (disch := omega) only [mH_t64, mH_r1, mH_r3, mH_r4, mH_r5, mH_r6, mH_r8, mH_r9, mH_r10, mH_r11, mH_r12, mH_r14, mH_i0, mH_i2, mH_i7, mH_i13, mH_i15, mH_t71, mH_t, mH_lr, mH_l65, mH_l69, mH_l70, mH_l71, mH_l72, mH_l73, mH_l74, mH_l75, mH_c, e66, e72, e73, e74, zk, z3]
              have eD : xz (gL A (gla A t)) (p : Int) = ((ezs A (gla A t) (p : Int)).toNat : Int) := by { have q9 := hnt.2.2.1; rw [if_pos (by omega)] at q9; omega }
              rw [eD]
              refine e_cQV3 (z := 175) hK rfl rfl (by first | (simp (disch := omega) only [mH_t64, mH_r1, mH_r3, mH_r4, mH_r5, mH_r6, mH_r8, mH_r9, mH_r10, mH_r11, mH_r12, mH_r14, mH_i0, mH_i2, mH_i7, mH_i13, mH_i15, mH_t71, mH_t, mH_lr, mH_l65, mH_l69, mH_l70, mH_l71, mH_l72, mH_l73, mH_l74, mH_l75, mH_c, e66, e72, e73, e74, zk, z3]; rfl) | (show _ = 2; assumption) | (show _ = 1; assumption) | (show _ = 0; assumption) | (show _ = 3; assumption) | (show _ = 4; assumption)) rfl (Nat.le_of_ble_eq_true rfl) (Nat.le_of_ble_eq_true rfl) (m_write (ext6 (vb A (gla A t) p)) hnt.1 (by omega) (ezs A (gla A t) (p : Int)).toNat (by omega) (npos A (gla A t) p) g1 (by omega) (by omega)) ?_
              rintro _ _ _ ⟨rfl, rfl, w2, rfl, x1, x2, x3, x4⟩
              refine ⟨by decide, ?_⟩
              rw [if_pos rfl]
              try dsimp only
              show mv_Ev _ _ 172 _ _ _ _ _
              refine e_goto (t := 230) hK rfl (by decide) ?_
              refine e_step (pc' := 233) hK rfl rfl rfl ?_
              try simp only [List.set_cons_zero, List.set_cons_succ]
              refine e_goto (t := 58) hK rfl (by decide) ?_
              refine ih (p + 1) w2 _ _ ⟨by omega, fun b n1 n2 => (x1 b n1 n2).trans (hw b n1 n2), fun k n1 => (x2 k n1).trans (hw4 k n1), ?_, fun q q0 q1 => ?_⟩
              · rw [x3]; show _ = npos A (gla A t) p + ezs A (gla A t) p; omega
              · have q1 : q < npos A (gla A t) p + ezs A (gla A t) p := q1
                rw [x4 q]
                by_cases e : npos A (gla A t) p ≤ q
                · rw [if_pos (by omega), exl_in (p := p) hz0 (by omega) e q1, egl, if_pos k3, show ((ezs A (gla A t) (p : Int)).toNat : Int) = ezs A (gla A t) p from by omega]
                  exact hnt.2.2.2.1 _ (by omega) (by omega)
                · rw [if_neg (by omega)]; exact g2 q q0 (by omega)
            · replace hb151 := cq_le.2.mp hb151
              refine e_step (pc' := 156) hK rfl rfl rfl ?_
              refine e_cRS1 (z := 174) (pc' := 159) hK rfl rfl rfl (Nat.le_of_ble_eq_true rfl) (Nat.le_of_ble_eq_true rfl) (m_digits (ext6 (vb A (gla A t) p)) hnt.1 (by omega)) (by decide) rfl ?_
              try simp (disch := omega) only [mH_t64, mH_r1, mH_r3, mH_r4, mH_r5, mH_r6, mH_r8, mH_r9, mH_r10, mH_r11, mH_r12, mH_r14, mH_i0, mH_i2, mH_i7, mH_i13, mH_i15, mH_t71, mH_t, mH_lr, mH_l65, mH_l69, mH_l70, mH_l71, mH_l72, mH_l73, mH_l74, mH_l75, mH_c, e66, e72, e73, e74, zk, z3]
              refine e_goto (t := 169) hK rfl (by decide) ?_
              have eD : dgn (ext6 (vb A (gla A t) p)) = ((ezs A (gla A t) (p : Int)).toNat : Int) := by { have q9 := hnt.2.2.1; rw [if_neg (by omega)] at q9; omega }
              rw [eD]
              refine e_cQV3 (z := 175) hK rfl rfl (by first | (simp (disch := omega) only [mH_t64, mH_r1, mH_r3, mH_r4, mH_r5, mH_r6, mH_r8, mH_r9, mH_r10, mH_r11, mH_r12, mH_r14, mH_i0, mH_i2, mH_i7, mH_i13, mH_i15, mH_t71, mH_t, mH_lr, mH_l65, mH_l69, mH_l70, mH_l71, mH_l72, mH_l73, mH_l74, mH_l75, mH_c, e66, e72, e73, e74, zk, z3]; rfl) | (show _ = 2; assumption) | (show _ = 1; assumption) | (show _ = 0; assumption) | (show _ = 3; assumption) | (show _ = 4; assumption)) rfl (Nat.le_of_ble_eq_true rfl) (Nat.le_of_ble_eq_true rfl) (m_write (ext6 (vb A (gla A t) p)) hnt.1 (by omega) (ezs A (gla A t) (p : Int)).toNat (by omega) (npos A (gla A t) p) g1 (by omega) (by omega)) ?_
              rintro _ _ _ ⟨rfl, rfl, w2, rfl, x1, x2, x3, x4⟩
              refine ⟨by decide, ?_⟩
              rw [if_pos rfl]
              try dsimp only
              show mv_Ev _ _ 172 _ _ _ _ _
              refine e_goto (t := 230) hK rfl (by decide) ?_
              refine e_step (pc' := 233) hK rfl rfl rfl ?_
              try simp only [List.set_cons_zero, List.set_cons_succ]
              refine e_goto (t := 58) hK rfl (by decide) ?_
              refine ih (p + 1) w2 _ _ ⟨by omega, fun b n1 n2 => (x1 b n1 n2).trans (hw b n1 n2), fun k n1 => (x2 k n1).trans (hw4 k n1), ?_, fun q q0 q1 => ?_⟩
              · rw [x3]; show _ = npos A (gla A t) p + ezs A (gla A t) p; omega
              · have q1 : q < npos A (gla A t) p + ezs A (gla A t) p := q1
                rw [x4 q]
                by_cases e : npos A (gla A t) p ≤ q
                · rw [if_pos (by omega), exl_in (p := p) hz0 (by omega) e q1, egl, if_pos k3, show ((ezs A (gla A t) (p : Int)).toNat : Int) = ezs A (gla A t) p from by omega]
                  exact hnt.2.2.2.1 _ (by omega) (by omega)
                · rw [if_neg (by omega)]; exact g2 q q0 (by omega)
          · replace hb122 := cq_ge.2.mp hb122
            exfalso; first | omega | exact absurd trivial (by assumption) | (first | omega | (have q9 := glo_b A t (gla A t); omega))
set_option maxRecDepth 10000 in
theorem m_ahead {A : lg} (hR : Rw (v 266) A) (hI : gI A) (t : Int) (h0 : 0 ≤ t) (h1 : t < gT A) : mv_Cl sc q_Mod_layAhead [(2, 264), (0, t)] c (mH h v) (fun r c' h' => r = (3, 0) ∧ c' = c ∧ ∃ w, h' = mH h w ∧ (∀ b : Int, b ≠ 264 → b ≠ 272 → b ≠ 273 → b ≠ 274 → b ≠ 275 → w b = v b) ∧ (∀ k : Int, k ≠ 15 → w 264 k = v 264 k) ∧ w 264 15 = npos A (gla A t) (xn (gL A (gla A t))).toNat ∧ npos A (gla A t) (xn (gL A (gla A t))).toNat ≤ 60 ∧ ∀ k : Int, 0 ≤ k → k < npos A (gla A t) (xn (gL A (gla A t))).toNat → w 275 k = exl A (gla A t) (xn (gL A (gla A t))).toNat 0 k) := by
  have b1 := hI.1
  have b2 := hI.2.1
  have r0 := hR.1
  have r1 := hR.2.1
  have hla := gla_b hI h0 h1
  have egl := gl_L (A := A) hla.1 hla.2.1
  have hlx := gI_l hI hla.1 hla.2.1 hla.2.2
  have hlR := (hR.2.2.1 _ hla.1 hla.2.1).1
  have b3 := xn_b hlx.2.2.1
  have hz0 := fun (q : Nat) => ezs_0 (A := A) (l := gla A t) (by rw [egl]; exact hlx.2.2.1) (q : Int)
  have hvb := fun (p : Int) (p0 : 0 ≤ p) (p1 : p < xn (gL A (gla A t))) (k3 : xk (gL A (gla A t)) p = 3) => vb_le hI hla.1 hla.2.1 hla.2.2 p0 p1 k3
  have htot := npos_b hI hla.1 hla.2.1 hla.2.2
  show mv_Ev sc 173 0 [(2, 264), (0, t), (5, 0), (5, 0), (5, 0), (5, 0), (5, 0), (5, 0)] [] c (mH h v) _
  have hK : (mv_m 173).1 = kc_Mod_layAhead := rfl
  refine e_step (pc' := 1) hK rfl rfl rfl ?_
  refine e_getR (ci := 4) (k := 3) (pc' := 4) hK rfl (by simp (disch := omega) only [mH_t64, mH_r1, mH_r3, mH_r4, mH_r5, mH_r6, mH_r8, mH_r9, mH_r10, mH_r11, mH_r12, mH_r14, mH_i0, mH_i2, mH_i7, mH_i13, mH_i15, mH_t71, mH_t, mH_lr, mH_l65, mH_l69, mH_l70, mH_l71, mH_l72, mH_l73, mH_l74, mH_l75, mH_c]) rfl rfl (by decide) (by decide) (by (try simp (disch := omega) only [mH_t64, mH_r1, mH_r3, mH_r4, mH_r5, mH_r6, mH_r8, mH_r9, mH_r10, mH_r11, mH_r12, mH_r14, mH_i0, mH_i2, mH_i7, mH_i13, mH_i15, mH_t71, mH_t, mH_lr, mH_l65, mH_l69, mH_l70, mH_l71, mH_l72, mH_l73, mH_l74, mH_l75, mH_c]); first | omega | (have q9 := glo_b A t (gla A t); omega)) rfl ?_
  try simp (disch := omega) only [mH_t64, mH_r1, mH_r3, mH_r4, mH_r5, mH_r6, mH_r8, mH_r9, mH_r10, mH_r11, mH_r12, mH_r14, mH_i0, mH_i2, mH_i7, mH_i13, mH_i15, mH_t71, mH_t, mH_lr, mH_l65, mH_l69, mH_l70, mH_l71, mH_l72, mH_l73, mH_l74, mH_l75, mH_c]
  refine e_step (pc' := 5) hK rfl rfl rfl ?_
  refine e_cRS2 (z := 144) (pc' := 8) hK rfl rfl rfl (Nat.le_of_ble_eq_true rfl) (Nat.le_of_ble_eq_true rfl) (m_last 266 (by omega) hR hI t (by omega)) (by decide) rfl ?_
  try simp (disch := omega) only [mH_t64, mH_r1, mH_r3, mH_r4, mH_r5, mH_r6, mH_r8, mH_r9, mH_r10, mH_r11, mH_r12, mH_r14, mH_i0, mH_i2, mH_i7, mH_i13, mH_i15, mH_t71, mH_t, mH_lr, mH_l65, mH_l69, mH_l70, mH_l71, mH_l72, mH_l73, mH_l74, mH_l75, mH_c]
  refine e_step (pc' := 9) hK rfl rfl rfl ?_
  try simp only [List.set_cons_zero, List.set_cons_succ]
  refine e_step (pc' := 10) hK rfl rfl rfl ?_
  refine e_getR (ci := 4) (k := 3) (pc' := 13) hK rfl (by simp (disch := omega) only [mH_t64, mH_r1, mH_r3, mH_r4, mH_r5, mH_r6, mH_r8, mH_r9, mH_r10, mH_r11, mH_r12, mH_r14, mH_i0, mH_i2, mH_i7, mH_i13, mH_i15, mH_t71, mH_t, mH_lr, mH_l65, mH_l69, mH_l70, mH_l71, mH_l72, mH_l73, mH_l74, mH_l75, mH_c]) rfl rfl (by decide) (by decide) (by (try simp (disch := omega) only [mH_t64, mH_r1, mH_r3, mH_r4, mH_r5, mH_r6, mH_r8, mH_r9, mH_r10, mH_r11, mH_r12, mH_r14, mH_i0, mH_i2, mH_i7, mH_i13, mH_i15, mH_t71, mH_t, mH_lr, mH_l65, mH_l69, mH_l70, mH_l71, mH_l72, mH_l73, mH_l74, mH_l75, mH_c]); first | omega | (have q9 := glo_b A t (gla A t); omega)) rfl ?_
  try simp (disch := omega) only [mH_t64, mH_r1, mH_r3, mH_r4, mH_r5, mH_r6, mH_r8, mH_r9, mH_r10, mH_r11, mH_r12, mH_r14, mH_i0, mH_i2, mH_i7, mH_i13, mH_i15, mH_t71, mH_t, mH_lr, mH_l65, mH_l69, mH_l70, mH_l71, mH_l72, mH_l73, mH_l74, mH_l75, mH_c]
  refine e_step (pc' := 14) hK rfl rfl rfl ?_
  refine e_step (pc' := 15) hK rfl rfl rfl ?_
  refine e_cRS3 (z := 122) (pc' := 18) hK rfl rfl rfl (Nat.le_of_ble_eq_true rfl) (Nat.le_of_ble_eq_true rfl) (m_before 266 (by omega) hR hI t (by omega) (gla A t) hla.1 (by omega)) (by decide) rfl ?_
  try simp (disch := omega) only [mH_t64, mH_r1, mH_r3, mH_r4, mH_r5, mH_r6, mH_r8, mH_r9, mH_r10, mH_r11, mH_r12, mH_r14, mH_i0, mH_i2, mH_i7, mH_i13, mH_i15, mH_t71, mH_t, mH_lr, mH_l65, mH_l69, mH_l70, mH_l71, mH_l72, mH_l73, mH_l74, mH_l75, mH_c]
  refine e_step (pc' := 19) hK rfl rfl rfl ?_
  try simp only [List.set_cons_zero, List.set_cons_succ]
  refine e_step (pc' := 20) hK rfl rfl rfl ?_
  refine e_step (pc' := 21) hK rfl rfl rfl ?_
  refine e_getR (ci := 4) (k := 3) (pc' := 24) hK rfl (by simp (disch := omega) only [mH_t64, mH_r1, mH_r3, mH_r4, mH_r5, mH_r6, mH_r8, mH_r9, mH_r10, mH_r11, mH_r12, mH_r14, mH_i0, mH_i2, mH_i7, mH_i13, mH_i15, mH_t71, mH_t, mH_lr, mH_l65, mH_l69, mH_l70, mH_l71, mH_l72, mH_l73, mH_l74, mH_l75, mH_c]) rfl rfl (by decide) (by decide) (by (try simp (disch := omega) only [mH_t64, mH_r1, mH_r3, mH_r4, mH_r5, mH_r6, mH_r8, mH_r9, mH_r10, mH_r11, mH_r12, mH_r14, mH_i0, mH_i2, mH_i7, mH_i13, mH_i15, mH_t71, mH_t, mH_lr, mH_l65, mH_l69, mH_l70, mH_l71, mH_l72, mH_l73, mH_l74, mH_l75, mH_c]); first | omega | (have q9 := glo_b A t (gla A t); omega)) rfl ?_
  try simp (disch := omega) only [mH_t64, mH_r1, mH_r3, mH_r4, mH_r5, mH_r6, mH_r8, mH_r9, mH_r10, mH_r11, mH_r12, mH_r14, mH_i0, mH_i2, mH_i7, mH_i13, mH_i15, mH_t71, mH_t, mH_lr, mH_l65, mH_l69, mH_l70, mH_l71, mH_l72, mH_l73, mH_l74, mH_l75, mH_c]
  refine e_step (pc' := 25) hK rfl rfl rfl ?_
  refine e_step (pc' := 26) hK rfl rfl rfl ?_
  refine e_cQV4 (z := 123) hK rfl rfl (by first | (simp (disch := omega) only [mH_t64, mH_r1, mH_r3, mH_r4, mH_r5, mH_r6, mH_r8, mH_r9, mH_r10, mH_r11, mH_r12, mH_r14, mH_i0, mH_i2, mH_i7, mH_i13, mH_i15, mH_t71, mH_t, mH_lr, mH_l65, mH_l69, mH_l70, mH_l71, mH_l72, mH_l73, mH_l74, mH_l75, mH_c]; rfl) | (show _ = 2; assumption) | (show _ = 1; assumption) | (show _ = 0; assumption) | (show _ = 3; assumption) | (show _ = 4; assumption)) rfl (Nat.le_of_ble_eq_true rfl) (Nat.le_of_ble_eq_true rfl) (m_cut 266 (by omega) (gla A t) 0 ⟨hla.1, by omega⟩ (Or.inl rfl) hlx.2.2.1 hlR) ?_
  rintro _ _ _ ⟨rfl, rfl, w, rfl, hw, kw⟩
  refine ⟨by show (0 : Nat) ≠ 4; decide, ?_⟩
  rw [if_neg (by show ¬ (0 : Nat) = 3; decide)]
  try dsimp only
  have ew : w 266 = v 266 := hw.1 266 (by omega) (by omega) (by omega)
  show mv_Ev _ _ 29 _ _ _ _ _
  refine e_step (pc' := 31) hK rfl rfl rfl ?_
  try simp only [List.set_cons_zero, List.set_cons_succ]
  refine e_step (pc' := 32) hK rfl rfl rfl ?_
  refine e_step (pc' := 35) hK rfl rfl rfl ?_
  refine e_icmp (t := 50) (pc' := 38) hK rfl (by first | omega | (have q9 := glo_b A t (gla A t); omega)) (by first | omega | (have q9 := glo_b A t (gla A t); omega)) (by decide) rfl (fun hb35 => ?_) (fun hb35 => ?_)
  · replace hb35 := cq_eq.1.mp hb35
    refine e_step (pc' := 51) hK rfl rfl rfl ?_
    refine e_step (pc' := 52) hK rfl rfl rfl ?_
    refine e_put (ci := 4) (k := 15) (pc' := 55) hK rfl (by simp (disch := omega) only [mH_t64, mH_r1, mH_r3, mH_r4, mH_r5, mH_r6, mH_r8, mH_r9, mH_r10, mH_r11, mH_r12, mH_r14, mH_i0, mH_i2, mH_i7, mH_i13, mH_i15, mH_t71, mH_t, mH_lr, mH_l65, mH_l69, mH_l70, mH_l71, mH_l72, mH_l73, mH_l74, mH_l75, mH_c]) rfl rfl (by decide) rfl rfl ?_
    simp (disch := omega) only [mW_0, mW_2, mW_7, mW_13, mW_15, mW_a, gu_s]
    refine e_step (pc' := 56) hK rfl rfl rfl ?_
    refine e_step (pc' := 58) hK rfl rfl rfl ?_
    try simp only [List.set_cons_zero, List.set_cons_succ]
    refine (m_aheadO (sc := sc) (h := h) (v := gu w 264 (mv_up (w 264) 15 0)) (u := gu w 264 (mv_up (w 264) 15 0)) (by { rw [gu_n (by omega), ew]; exact hR }) hI t h0 h1 (ms_r _) (fun p p0 p1 => ?_) (fun hne p p0 p1 => ?_) (xn (gL A (gla A t))).toNat 0 _ (5, 0) (5, 0) ⟨by omega, fun b _ _ => rfl, fun k _ => rfl, by { rw [gu_s, up_s]; rfl }, fun q q0 q1 => by { have q1 : q < 0 := q1; omega }⟩).mono (fun r c' h' hq => ?_)
    · rw [gu_n (by omega), ew]
      exact Pc_64 (Pc_of (o := 0) kw hlR ⟨by omega, by omega⟩ hlx.2.2.1 (Or.inl rfl) p0 p1 (by omega))
    · exact absurd hb35 hne
    · obtain ⟨g1, g2, w9, g3, g4, g5, g6, g7, g8⟩ := hq
      refine ⟨g1, g2, w9, g3, fun b n1 n2 n3 n4 n5 => ?_, fun k n1 => ?_, g6, g7, g8⟩
      · rw [g4 b n1 n2 n3 n4 n5, gu_n n1]; exact hw.1 b n2 n3 n4
      · rw [g5 k n1, gu_s, up_n n1]; exact congrFun (hw.1 264 (by omega) (by omega) (by omega)) k
  · replace hb35 := cq_eq.2.mp hb35
    have hgy := (glo_p A t (gla A t)).resolve_left hb35
    have hjx := gI_l hI hgy.1 hgy.2.2.1 hgy.2.2.2.1
    refine e_step (pc' := 39) hK rfl rfl rfl ?_
    refine e_step (pc' := 40) hK rfl rfl rfl ?_
    refine e_getR (ci := 4) (k := 3) (pc' := 43) hK rfl (by simp (disch := omega) only [mH_t64, mH_r1, mH_r3, mH_r4, mH_r5, mH_r6, mH_r8, mH_r9, mH_r10, mH_r11, mH_r12, mH_r14, mH_i0, mH_i2, mH_i7, mH_i13, mH_i15, mH_t71, mH_t, mH_lr, mH_l65, mH_l69, mH_l70, mH_l71, mH_l72, mH_l73, mH_l74, mH_l75, mH_c]) rfl rfl (by decide) (by decide) (by (try simp (disch := omega) only [mH_t64, mH_r1, mH_r3, mH_r4, mH_r5, mH_r6, mH_r8, mH_r9, mH_r10, mH_r11, mH_r12, mH_r14, mH_i0, mH_i2, mH_i7, mH_i13, mH_i15, mH_t71, mH_t, mH_lr, mH_l65, mH_l69, mH_l70, mH_l71, mH_l72, mH_l73, mH_l74, mH_l75, mH_c]); first | omega | (have q9 := glo_b A t (gla A t); omega)) rfl ?_
    try simp (disch := omega) only [mH_t64, mH_r1, mH_r3, mH_r4, mH_r5, mH_r6, mH_r8, mH_r9, mH_r10, mH_r11, mH_r12, mH_r14, mH_i0, mH_i2, mH_i7, mH_i13, mH_i15, mH_t71, mH_t, mH_lr, mH_l65, mH_l69, mH_l70, mH_l71, mH_l72, mH_l73, mH_l74, mH_l75, mH_c]
    refine e_step (pc' := 44) hK rfl rfl rfl ?_
    refine e_step (pc' := 46) hK rfl rfl rfl ?_
    refine e_cQV4 (z := 123) hK rfl rfl (by first | (simp (disch := omega) only [mH_t64, mH_r1, mH_r3, mH_r4, mH_r5, mH_r6, mH_r8, mH_r9, mH_r10, mH_r11, mH_r12, mH_r14, mH_i0, mH_i2, mH_i7, mH_i13, mH_i15, mH_t71, mH_t, mH_lr, mH_l65, mH_l69, mH_l70, mH_l71, mH_l72, mH_l73, mH_l74, mH_l75, mH_c]; rfl) | (show _ = 2; assumption) | (show _ = 1; assumption) | (show _ = 0; assumption) | (show _ = 3; assumption) | (show _ = 4; assumption)) rfl (Nat.le_of_ble_eq_true rfl) (Nat.le_of_ble_eq_true rfl) (m_cut 266 (by omega) (glo A t (gla A t)) 12 ⟨hgy.1, by omega⟩ (Or.inr rfl) (gLok hI hgy.1 hgy.2.2.1) (by rw [ew]; exact (hR.2.2.1 _ hgy.1 hgy.2.2.1).1)) ?_
    rintro _ _ _ ⟨rfl, rfl, s, rfl, hs, ks⟩
    refine ⟨by show (0 : Nat) ≠ 4; decide, ?_⟩
    rw [if_neg (by show ¬ (0 : Nat) = 3; decide)]
    try dsimp only
    show mv_Ev _ _ 49 _ _ _ _ _
    refine e_step (pc' := 50) hK rfl rfl rfl ?_
    refine e_step (pc' := 51) hK rfl rfl rfl ?_
    refine e_step (pc' := 52) hK rfl rfl rfl ?_
    refine e_put (ci := 4) (k := 15) (pc' := 55) hK rfl (by simp (disch := omega) only [mH_t64, mH_r1, mH_r3, mH_r4, mH_r5, mH_r6, mH_r8, mH_r9, mH_r10, mH_r11, mH_r12, mH_r14, mH_i0, mH_i2, mH_i7, mH_i13, mH_i15, mH_t71, mH_t, mH_lr, mH_l65, mH_l69, mH_l70, mH_l71, mH_l72, mH_l73, mH_l74, mH_l75, mH_c]) rfl rfl (by decide) rfl rfl ?_
    simp (disch := omega) only [mW_0, mW_2, mW_7, mW_13, mW_15, mW_a, gu_s]
    refine e_step (pc' := 56) hK rfl rfl rfl ?_
    refine e_step (pc' := 58) hK rfl rfl rfl ?_
    try simp only [List.set_cons_zero, List.set_cons_succ]
    refine (m_aheadO (sc := sc) (h := h) (v := gu s 264 (mv_up (s 264) 15 0)) (u := gu s 264 (mv_up (s 264) 15 0)) (by { rw [gu_n (by omega), (hs.1 266 (by omega) (by omega) (by omega)).trans ew]; exact hR }) hI t h0 h1 (ms_r _) (fun p p0 p1 => ?_) (fun hne p p0 p1 => ?_) (xn (gL A (gla A t))).toNat 0 _ (5, 0) (5, 0) ⟨by omega, fun b _ _ => rfl, fun k _ => rfl, by { rw [gu_s, up_s]; rfl }, fun q q0 q1 => by { have q1 : q < 0 := q1; omega }⟩).mono (fun r c' h' hq => ?_)
    · rw [gu_n (by omega), (hs.1 266 (by omega) (by omega) (by omega)).trans ew]
      exact Pc_64 (Pc_fr (Pc_of (o := 0) kw hlR ⟨by omega, by omega⟩ hlx.2.2.1 (Or.inl rfl) p0 p1 (Int.zero_add p).symm) hs (by omega))
    · rw [gu_n (by omega), (hs.1 266 (by omega) (by omega) (by omega)).trans ew]
      exact Pc_64 (Pc_of (o := 12) ks (hR.2.2.1 _ hgy.1 hgy.2.2.1).1 ⟨by omega, by omega⟩ (gLok hI hgy.1 hgy.2.2.1) (Or.inr rfl) p0 (by rw [hjx.2.2.2.1, ← hlx.2.2.2.1]; exact p1) rfl)
    · obtain ⟨g1, g2, w9, g3, g4, g5, g6, g7, g8⟩ := hq
      refine ⟨g1, g2, w9, g3, fun b n1 n2 n3 n4 n5 => ?_, fun k n1 => ?_, g6, g7, g8⟩
      · rw [g4 b n1 n2 n3 n4 n5, gu_n n1]; exact (ms_t hw.1 hs.1) b n2 n3 n4
      · rw [g5 k n1, gu_s, up_n n1]; exact congrFun ((ms_t hw.1 hs.1) 264 (by omega) (by omega) (by omega)) k
end MR
