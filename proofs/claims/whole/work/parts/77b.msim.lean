/-! the reference's face: simulations (written by wip/whole/m77.py) -/
section GG
variable {sc : Int × (Int → Int)} {c : mv_C} {h : mv_H} {v : mvt}
set_option maxRecDepth 10000 in
theorem g_drawC {v0 : mvt} {D : lg} (hz : sz D) (x : xt) (hx : x.1 ≤ 40) (a1 a2 : mv_V) : ∀ (m : Nat) (k : Nat) (w : mvt), (k + m = x.1 ∧ Ah v0 x ∧ (∀ b : Int, b ≠ 267 → w b = v0 b) ∧ w 267 (2 + 42 * gn D) = x.1 ∧ (∀ q : Int, 0 ≤ q → q < k → w 267 (2 + 42 * gn D + 2 + q) = x.2 q) ∧ (∀ q : Int, (q < 2 + 42 * gn D ∨ 2 + 42 * gn D + 42 ≤ q) → w 267 q = v0 267 q) ∧ w 264 15 = x.1) → mv_Ev sc 180 134 [(2, 264), a1, a2, (0, 2 + 42 * (gn D : Int)), (0, (k : Int))] [] c (mH h w) (fun r' c' h' => r' = (3, 0) ∧ c' = c ∧ ∃ w, h' = mH h w ∧ (∀ b : Int, b ≠ 267 → w b = v0 b) ∧ Rl (w 267) (gn D) x ∧ ∀ q : Int, (q < 2 + 42 * gn D ∨ 2 + 42 * gn D + 42 ≤ q) → w 267 q = v0 267 q) := by
  intro m
  induction m with
  | zero =>
    intro k w ⟨hk, hA, g0, g1, g2, g3, g4⟩
    have bn := hz.2.1
    have hK : (mv_m 180).1 = kc_Mod_layDrawn := rfl
    refine e_step (pc' := 136) hK rfl rfl rfl ?_
    refine e_step (pc' := 137) hK rfl rfl rfl ?_
    refine e_getI (ci := 4) (k := 15) (pc' := 140) hK rfl (by simp (disch := omega) only [mH_t64, mH_r1, mH_r3, mH_r4, mH_r5, mH_r6, mH_r8, mH_r9, mH_r10, mH_r11, mH_r12, mH_r14, mH_i0, mH_i2, mH_i7, mH_i13, mH_i15, mH_t71, mH_t, mH_lr, mH_l65, mH_l69, mH_l70, mH_l71, mH_l72, mH_l73, mH_l74, mH_l75, mH_c, g4]) rfl rfl (by decide) (by decide) rfl ?_
    try simp (disch := omega) only [mH_t64, mH_r1, mH_r3, mH_r4, mH_r5, mH_r6, mH_r8, mH_r9, mH_r10, mH_r11, mH_r12, mH_r14, mH_i0, mH_i2, mH_i7, mH_i13, mH_i15, mH_t71, mH_t, mH_lr, mH_l65, mH_l69, mH_l70, mH_l71, mH_l72, mH_l73, mH_l74, mH_l75, mH_c, g4]
    refine e_icmp (t := 167) (pc' := 143) hK rfl (by omega) (by omega) (by decide) rfl (fun hb140 => ?_) (fun hb140 => ?_)
    · replace hb140 := cq_ge.1.mp hb140
      refine e_ret hK rfl rfl rfl ?_
      exact ⟨rfl, rfl, w, rfl, g0, ⟨g1, fun q q0 q1 => g2 q q0 (by omega)⟩, g3⟩
    · replace hb140 := cq_ge.2.mp hb140
      exfalso; first | omega | exact absurd trivial (by assumption)
  | succ m ih =>
    intro k w ⟨hk, hA, g0, g1, g2, g3, g4⟩
    have bn := hz.2.1
    have hK : (mv_m 180).1 = kc_Mod_layDrawn := rfl
    refine e_step (pc' := 136) hK rfl rfl rfl ?_
    refine e_step (pc' := 137) hK rfl rfl rfl ?_
    refine e_getI (ci := 4) (k := 15) (pc' := 140) hK rfl (by simp (disch := omega) only [mH_t64, mH_r1, mH_r3, mH_r4, mH_r5, mH_r6, mH_r8, mH_r9, mH_r10, mH_r11, mH_r12, mH_r14, mH_i0, mH_i2, mH_i7, mH_i13, mH_i15, mH_t71, mH_t, mH_lr, mH_l65, mH_l69, mH_l70, mH_l71, mH_l72, mH_l73, mH_l74, mH_l75, mH_c, g4]) rfl rfl (by decide) (by decide) rfl ?_
    try simp (disch := omega) only [mH_t64, mH_r1, mH_r3, mH_r4, mH_r5, mH_r6, mH_r8, mH_r9, mH_r10, mH_r11, mH_r12, mH_r14, mH_i0, mH_i2, mH_i7, mH_i13, mH_i15, mH_t71, mH_t, mH_lr, mH_l65, mH_l69, mH_l70, mH_l71, mH_l72, mH_l73, mH_l74, mH_l75, mH_c, g4]
    refine e_icmp (t := 167) (pc' := 143) hK rfl (by omega) (by omega) (by decide) rfl (fun hb140 => ?_) (fun hb140 => ?_)
    · replace hb140 := cq_ge.1.mp hb140
      exfalso; first | omega | exact absurd trivial (by assumption)
    · replace hb140 := cq_ge.2.mp hb140
      have fk : w 275 (k : Int) = x.2 k := by { rw [g0 275 (by omega)]; exact hA.2 k (by omega) (by omega) }
      refine e_step (pc' := 144) hK rfl rfl rfl ?_
      refine e_getR (ci := 4) (k := 4) (pc' := 147) hK rfl (by simp (disch := omega) only [mH_t64, mH_r1, mH_r3, mH_r4, mH_r5, mH_r6, mH_r8, mH_r9, mH_r10, mH_r11, mH_r12, mH_r14, mH_i0, mH_i2, mH_i7, mH_i13, mH_i15, mH_t71, mH_t, mH_lr, mH_l65, mH_l69, mH_l70, mH_l71, mH_l72, mH_l73, mH_l74, mH_l75, mH_c, g4, fk]) rfl rfl (by decide) (by decide) (by (try simp (disch := omega) only [mH_t64, mH_r1, mH_r3, mH_r4, mH_r5, mH_r6, mH_r8, mH_r9, mH_r10, mH_r11, mH_r12, mH_r14, mH_i0, mH_i2, mH_i7, mH_i13, mH_i15, mH_t71, mH_t, mH_lr, mH_l65, mH_l69, mH_l70, mH_l71, mH_l72, mH_l73, mH_l74, mH_l75, mH_c, g4, fk]); omega) rfl ?_
      try simp (disch := omega) only [mH_t64, mH_r1, mH_r3, mH_r4, mH_r5, mH_r6, mH_r8, mH_r9, mH_r10, mH_r11, mH_r12, mH_r14, mH_i0, mH_i2, mH_i7, mH_i13, mH_i15, mH_t71, mH_t, mH_lr, mH_l65, mH_l69, mH_l70, mH_l71, mH_l72, mH_l73, mH_l74, mH_l75, mH_c, g4, fk]
      refine e_step (pc' := 148) hK rfl rfl rfl ?_
      refine e_step (pc' := 149) hK rfl rfl rfl ?_
      refine e_step (pc' := 150) hK rfl rfl rfl ?_
      refine e_step (pc' := 152) hK rfl rfl rfl ?_
      refine e_step (pc' := 153) hK rfl rfl rfl ?_
      refine e_step (pc' := 154) hK rfl rfl rfl ?_
      refine e_getR (ci := 4) (k := 14) (pc' := 157) hK rfl (by simp (disch := omega) only [mH_t64, mH_r1, mH_r3, mH_r4, mH_r5, mH_r6, mH_r8, mH_r9, mH_r10, mH_r11, mH_r12, mH_r14, mH_i0, mH_i2, mH_i7, mH_i13, mH_i15, mH_t71, mH_t, mH_lr, mH_l65, mH_l69, mH_l70, mH_l71, mH_l72, mH_l73, mH_l74, mH_l75, mH_c, g4, fk]) rfl rfl (by decide) (by decide) (by (try simp (disch := omega) only [mH_t64, mH_r1, mH_r3, mH_r4, mH_r5, mH_r6, mH_r8, mH_r9, mH_r10, mH_r11, mH_r12, mH_r14, mH_i0, mH_i2, mH_i7, mH_i13, mH_i15, mH_t71, mH_t, mH_lr, mH_l65, mH_l69, mH_l70, mH_l71, mH_l72, mH_l73, mH_l74, mH_l75, mH_c, g4, fk]); omega) rfl ?_
      try simp (disch := omega) only [mH_t64, mH_r1, mH_r3, mH_r4, mH_r5, mH_r6, mH_r8, mH_r9, mH_r10, mH_r11, mH_r12, mH_r14, mH_i0, mH_i2, mH_i7, mH_i13, mH_i15, mH_t71, mH_t, mH_lr, mH_l65, mH_l69, mH_l70, mH_l71, mH_l72, mH_l73, mH_l74, mH_l75, mH_c, g4, fk]
      refine e_step (pc' := 159) hK rfl rfl rfl ?_
      refine e_iald (pc' := 160) hK rfl (by simp (disch := omega) only [mH_t64, mH_r1, mH_r3, mH_r4, mH_r5, mH_r6, mH_r8, mH_r9, mH_r10, mH_r11, mH_r12, mH_r14, mH_i0, mH_i2, mH_i7, mH_i13, mH_i15, mH_t71, mH_t, mH_lr, mH_l65, mH_l69, mH_l70, mH_l71, mH_l72, mH_l73, mH_l74, mH_l75, mH_c, g4, fk]) (by omega) (by (try simp (disch := omega) only [mH_t64, mH_r1, mH_r3, mH_r4, mH_r5, mH_r6, mH_r8, mH_r9, mH_r10, mH_r11, mH_r12, mH_r14, mH_i0, mH_i2, mH_i7, mH_i13, mH_i15, mH_t71, mH_t, mH_lr, mH_l65, mH_l69, mH_l70, mH_l71, mH_l72, mH_l73, mH_l74, mH_l75, mH_c, g4, fk]); omega) rfl ?_
      try simp (disch := omega) only [mH_t64, mH_r1, mH_r3, mH_r4, mH_r5, mH_r6, mH_r8, mH_r9, mH_r10, mH_r11, mH_r12, mH_r14, mH_i0, mH_i2, mH_i7, mH_i13, mH_i15, mH_t71, mH_t, mH_lr, mH_l65, mH_l69, mH_l70, mH_l71, mH_l72, mH_l73, mH_l74, mH_l75, mH_c, g4, fk]
      refine e_iast (pc' := 161) hK rfl (by simp (disch := omega) only [mH_t64, mH_r1, mH_r3, mH_r4, mH_r5, mH_r6, mH_r8, mH_r9, mH_r10, mH_r11, mH_r12, mH_r14, mH_i0, mH_i2, mH_i7, mH_i13, mH_i15, mH_t71, mH_t, mH_lr, mH_l65, mH_l69, mH_l70, mH_l71, mH_l72, mH_l73, mH_l74, mH_l75, mH_c, g4, fk]) (by omega) (by (try simp (disch := omega) only [mH_t64, mH_r1, mH_r3, mH_r4, mH_r5, mH_r6, mH_r8, mH_r9, mH_r10, mH_r11, mH_r12, mH_r14, mH_i0, mH_i2, mH_i7, mH_i13, mH_i15, mH_t71, mH_t, mH_lr, mH_l65, mH_l69, mH_l70, mH_l71, mH_l72, mH_l73, mH_l74, mH_l75, mH_c, g4, fk]); omega) rfl ?_
      simp (disch := omega) only [mW_0, mW_2, mW_7, mW_13, mW_15, mW_a, gu_s]
      refine e_step (pc' := 164) hK rfl rfl rfl ?_
      try simp only [List.set_cons_zero, List.set_cons_succ]
      refine e_goto (t := 134) hK rfl (by decide) ?_
      refine ih (k + 1) _ ⟨by omega, hA, fun b n1 => by rw [gu_n n1]; exact g0 b n1, ?_, fun q p0 p1 => ?_, fun q n2 => ?_, by rw [gu_n (by omega)]; exact g4⟩
      · rw [gu_s, up_n (by omega)]; exact g1
      · rw [gu_s]
        by_cases e : q = k
        · rw [e, up_s]
        · rw [up_n (by omega)]; exact g2 q p0 (by omega)
      · rw [gu_s, up_n (by omega)]; exact g3 q n2
set_option maxRecDepth 20000 in
theorem g_drawn {D : lg} (hR : Rw (v 267) D) (hz : sz D) (r y : Int) (hr : 0 ≤ r) (hr2 : r ≤ 2147483647) (hy : 0 ≤ y) (hy2 : y ≤ 99) : mv_Cl sc q_Mod_layDrawn [(2, 264), (0, r), (0, y)] c (mH h v) (fun r' c' h' => r' = (3, 0) ∧ c' = c ∧ ∃ w, h' = mH h w ∧ (∀ b : Int, b ≠ 264 → b ≠ 267 → b ≠ 275 → w b = v b) ∧ (∀ k : Int, k ≠ 15 → w 264 k = v 264 k) ∧ Rl (w 267) (gn D) (stx r y) ∧ xok (stx r y) ∧ ∀ q : Int, (q < 2 + 42 * gn D ∨ 2 + 42 * gn D + 42 ≤ q) → w 267 q = v 267 q) := by
  have bn := hz.2.1
  have r0 := hR.1
  have s1 := sm_b hr hr2 4 3 (by decide) (by decide)
  have s2 := sm_b hr hr2 16 4 (by decide) (by decide)
  have s3 := sm_b hr hr2 64 5 (by decide) (by decide)
  have s4 := sm_b hr hr2 32768 2 (by decide) (by decide)
  have s5 := sm_b hr hr2 512 50 (by decide) (by decide)
  have hsl : sl r = 97 + (r.tdiv 4).tmod 3 := rfl
  have hd1 := dgn_b y
  have hd2 := dgn_le (k := 2) hy (by rw [show (10 : Int) ^ 2 = 100 from rfl]; omega) (by omega)
  have hD1 : dgn y = ((dgn y).toNat : Int) := by omega
  have he1 := dgn_b ((r.tdiv 512).tmod 50)
  have he2 := dgn_le (v := (r.tdiv 512).tmod 50) (k := 2) (by omega) (by rw [show (10 : Int) ^ 2 = 100 from rfl]; omega) (by omega)
  have hE1 : dgn ((r.tdiv 512).tmod 50) = ((dgn ((r.tdiv 512).tmod 50)).toNat : Int) := by omega
  have hJ0 : xJ x0 0 := ⟨xok0, by show dgl (px x0.2 0) ≤ 0; unfold dgl; rw [if_neg (fun q => absurd q.1 (by show ¬ (0 : Int) < 0; omega))]; exact Int.le_refl _, Int.le_refl _⟩
  have hl0 : x0.1 = 0 := rfl
  show mv_Ev sc 180 0 [(2, 264), (0, r), (0, y), (5, 0), (5, 0)] [] c (mH h v) _
  have hK : (mv_m 180).1 = kc_Mod_layDrawn := rfl
  refine e_step (pc' := 1) hK rfl rfl rfl ?_
  refine e_step (pc' := 2) hK rfl rfl rfl ?_
  refine e_put (ci := 4) (k := 15) (pc' := 5) hK rfl (by simp (disch := omega) only [mH_t64, mH_r1, mH_r3, mH_r4, mH_r5, mH_r6, mH_r8, mH_r9, mH_r10, mH_r11, mH_r12, mH_r14, mH_i0, mH_i2, mH_i7, mH_i13, mH_i15, mH_t71, mH_t, mH_lr, mH_l65, mH_l69, mH_l70, mH_l71, mH_l72, mH_l73, mH_l74, mH_l75, mH_c, gu_n, gu_s]) rfl rfl (by decide) rfl rfl ?_
  simp (disch := omega) only [mW_0, mW_2, mW_7, mW_13, mW_15, mW_a, gu_s]
  have hA0 : Ah (gu v 264 (mv_up (v 264) 15 0)) x0 := ⟨by { rw [gu_s, up_s]; rfl }, fun k k0 k1 => by { have k1 : k < 0 := k1; omega }⟩
  have hm0 : mah v (gu v 264 (mv_up (v 264) 15 0)) := ⟨fun b b1 _ => gu_n b1, fun k hk => by { rw [gu_s, up_n hk] }⟩
  refine e_step (pc' := 6) hK rfl rfl rfl ?_
  refine e_step (pc' := 8) hK rfl rfl rfl ?_
  refine e_step (pc' := 9) hK rfl rfl rfl ?_
  refine e_step (pc' := 10) hK rfl rfl rfl ?_
  refine e_idiv (pc' := 11) hK rfl (by omega) (by omega) (by omega) rfl ?_
  refine e_step (pc' := 12) hK rfl rfl rfl ?_
  refine e_irem (pc' := 13) hK rfl (by omega) (by omega) (by omega) rfl ?_
  refine e_step (pc' := 14) hK rfl rfl rfl ?_
  show mv_Ev _ _ 14 _ ((0, sl r) :: _) _ _ _
  refine e_cQV2 (z := 181) hK rfl rfl (by first | (simp (disch := omega) only [mH_t64, mH_r1, mH_r3, mH_r4, mH_r5, mH_r6, mH_r8, mH_r9, mH_r10, mH_r11, mH_r12, mH_r14, mH_i0, mH_i2, mH_i7, mH_i13, mH_i15, mH_t71, mH_t, mH_lr, mH_l65, mH_l69, mH_l70, mH_l71, mH_l72, mH_l73, mH_l74, mH_l75, mH_c, gu_n, gu_s]; rfl) | (show _ = 2; assumption) | (show _ = 1; assumption) | (show _ = 0; assumption) | (show _ = 3; assumption) | (show _ = 4; assumption)) rfl (Nat.le_of_ble_eq_true rfl) (Nat.le_of_ble_eq_true rfl) (m_laySign (sl r) _ hA0.1 (by omega) (by omega)) ?_
  rintro _ _ _ ⟨rfl, rfl, w1, rfl, o1, o2, o3, o4⟩
  refine ⟨by decide, ?_⟩
  rw [if_pos rfl]
  try dsimp only
  have hk1 : px_k (sl r) = 0 := by { unfold px_k; rw [if_pos (by omega)] }
  have hxe1 := xadd_e (c := (sl r)) hJ0 (by omega) (by omega) (fun e => by omega)
  have hJ1 := xJ_ap (c := (sl r)) hJ0 (by omega) (by omega) (fun e => by omega)
  rw [if_neg (show ¬ px_k (sl r) = 3 by omega)] at hJ1
  have hA1 := Ah_ap hA0 rfl o3 o4
  rw [← hxe1] at hA1 hJ1
  have hm1 := mah_t hm0 ⟨o1, o2⟩
  have hl1 : (xadd x0 (sl r)).1 = x0.1 + 1 := by { rw [hxe1]; rfl }
  show mv_Ev _ _ 17 _ _ _ _ _
  refine e_step (pc' := 18) hK rfl rfl rfl ?_
  refine e_step (pc' := 20) hK rfl rfl rfl ?_
  refine e_step (pc' := 21) hK rfl rfl rfl ?_
  refine e_step (pc' := 22) hK rfl rfl rfl ?_
  refine e_idiv (pc' := 23) hK rfl (by omega) (by omega) (by omega) rfl ?_
  refine e_step (pc' := 24) hK rfl rfl rfl ?_
  refine e_irem (pc' := 25) hK rfl (by omega) (by omega) (by omega) rfl ?_
  refine e_step (pc' := 26) hK rfl rfl rfl ?_
  show mv_Ev _ _ 26 _ ((0, sl r) :: _) _ _ _
  refine e_cQV2 (z := 181) hK rfl rfl (by first | (simp (disch := omega) only [mH_t64, mH_r1, mH_r3, mH_r4, mH_r5, mH_r6, mH_r8, mH_r9, mH_r10, mH_r11, mH_r12, mH_r14, mH_i0, mH_i2, mH_i7, mH_i13, mH_i15, mH_t71, mH_t, mH_lr, mH_l65, mH_l69, mH_l70, mH_l71, mH_l72, mH_l73, mH_l74, mH_l75, mH_c, gu_n, gu_s]; rfl) | (show _ = 2; assumption) | (show _ = 1; assumption) | (show _ = 0; assumption) | (show _ = 3; assumption) | (show _ = 4; assumption)) rfl (Nat.le_of_ble_eq_true rfl) (Nat.le_of_ble_eq_true rfl) (m_laySign (sl r) _ hA1.1 (by omega) (by omega)) ?_
  rintro _ _ _ ⟨rfl, rfl, w2, rfl, o1, o2, o3, o4⟩
  refine ⟨by decide, ?_⟩
  rw [if_pos rfl]
  try dsimp only
  have hk2 : px_k (sl r) = 0 := by { unfold px_k; rw [if_pos (by omega)] }
  have hxe2 := xadd_e (c := (sl r)) hJ1 (by omega) (by omega) (fun e => by omega)
  have hJ2 := xJ_ap (c := (sl r)) hJ1 (by omega) (by omega) (fun e => by omega)
  rw [if_neg (show ¬ px_k (sl r) = 3 by omega)] at hJ2
  have hA2 := Ah_ap hA1 rfl o3 o4
  rw [← hxe2] at hA2 hJ2
  have hm2 := mah_t hm1 ⟨o1, o2⟩
  have hl2 : (xadd (xadd x0 (sl r)) (sl r)).1 = (xadd x0 (sl r)).1 + 1 := by { rw [hxe2]; rfl }
  show mv_Ev _ _ 29 _ _ _ _ _
  refine e_step (pc' := 30) hK rfl rfl rfl ?_
  refine e_step (pc' := 32) hK rfl rfl rfl ?_
  refine e_cQV2 (z := 181) hK rfl rfl (by first | (simp (disch := omega) only [mH_t64, mH_r1, mH_r3, mH_r4, mH_r5, mH_r6, mH_r8, mH_r9, mH_r10, mH_r11, mH_r12, mH_r14, mH_i0, mH_i2, mH_i7, mH_i13, mH_i15, mH_t71, mH_t, mH_lr, mH_l65, mH_l69, mH_l70, mH_l71, mH_l72, mH_l73, mH_l74, mH_l75, mH_c, gu_n, gu_s]; rfl) | (show _ = 2; assumption) | (show _ = 1; assumption) | (show _ = 0; assumption) | (show _ = 3; assumption) | (show _ = 4; assumption)) rfl (Nat.le_of_ble_eq_true rfl) (Nat.le_of_ble_eq_true rfl) (m_laySign 32 _ hA2.1 (by omega) (by omega)) ?_
  rintro _ _ _ ⟨rfl, rfl, w3, rfl, o1, o2, o3, o4⟩
  refine ⟨by decide, ?_⟩
  rw [if_pos rfl]
  try dsimp only
  have hk3 : px_k 32 = 1 := by { unfold px_k; rw [if_neg (by omega), if_neg (by omega), if_pos (by omega)] }
  have hxe3 := xadd_e (c := 32) hJ2 (by omega) (by omega) (fun e => by omega)
  have hJ3 := xJ_ap (c := 32) hJ2 (by omega) (by omega) (fun e => by omega)
  rw [if_neg (show ¬ px_k 32 = 3 by omega)] at hJ3
  have hA3 := Ah_ap hA2 rfl o3 o4
  rw [← hxe3] at hA3 hJ3
  have hm3 := mah_t hm2 ⟨o1, o2⟩
  have hl3 : (xadd (xadd (xadd x0 (sl r)) (sl r)) 32).1 = (xadd (xadd x0 (sl r)) (sl r)).1 + 1 := by { rw [hxe3]; rfl }
  show mv_Ev _ _ 35 _ _ _ _ _
  refine e_step (pc' := 36) hK rfl rfl rfl ?_
  refine e_step (pc' := 37) hK rfl rfl rfl ?_
  refine e_cQV2 (z := 182) hK rfl rfl (by first | (simp (disch := omega) only [mH_t64, mH_r1, mH_r3, mH_r4, mH_r5, mH_r6, mH_r8, mH_r9, mH_r10, mH_r11, mH_r12, mH_r14, mH_i0, mH_i2, mH_i7, mH_i13, mH_i15, mH_t71, mH_t, mH_lr, mH_l65, mH_l69, mH_l70, mH_l71, mH_l72, mH_l73, mH_l74, mH_l75, mH_c, gu_n, gu_s]; rfl) | (show _ = 2; assumption) | (show _ = 1; assumption) | (show _ = 0; assumption) | (show _ = 3; assumption) | (show _ = 4; assumption)) rfl (Nat.le_of_ble_eq_true rfl) (Nat.le_of_ble_eq_true rfl) (m_layDigits y hy (by omega) (dgn y).toNat hD1 (by omega) _ hA3.1 (by omega) (by omega)) ?_
  rintro _ _ _ ⟨rfl, rfl, w4, rfl, o1, o2, o3, o4⟩
  refine ⟨by decide, ?_⟩
  rw [if_pos rfl]
  try dsimp only
  obtain ⟨hA4, hJ4, hl4⟩ := Ah_num hy hD1 hJ3 (by omega) (by omega) hA3 rfl o3 o4
  have hm4 := mah_t hm3 ⟨o1, o2⟩
  show mv_Ev _ _ 40 _ _ _ _ _
  refine e_step (pc' := 41) hK rfl rfl rfl ?_
  refine e_step (pc' := 42) hK rfl rfl rfl ?_
  refine e_step (pc' := 44) hK rfl rfl rfl ?_
  refine e_idiv (pc' := 45) hK rfl (by omega) (by omega) (by omega) rfl ?_
  refine e_step (pc' := 46) hK rfl rfl rfl ?_
  refine e_irem (pc' := 47) hK rfl (by omega) (by omega) (by omega) rfl ?_
  refine e_if (t := 55) (pc' := 50) hK rfl (by omega) (by decide) rfl (fun hb47 => ?_) (fun hb47 => ?_)
  · replace hb47 := cq_ne.1.mp hb47
    refine e_step (pc' := 57) hK rfl rfl rfl ?_
    refine e_cQV2 (z := 181) hK rfl rfl (by first | (simp (disch := omega) only [mH_t64, mH_r1, mH_r3, mH_r4, mH_r5, mH_r6, mH_r8, mH_r9, mH_r10, mH_r11, mH_r12, mH_r14, mH_i0, mH_i2, mH_i7, mH_i13, mH_i15, mH_t71, mH_t, mH_lr, mH_l65, mH_l69, mH_l70, mH_l71, mH_l72, mH_l73, mH_l74, mH_l75, mH_c, gu_n, gu_s]; rfl) | (show _ = 2; assumption) | (show _ = 1; assumption) | (show _ = 0; assumption) | (show _ = 3; assumption) | (show _ = 4; assumption)) rfl (Nat.le_of_ble_eq_true rfl) (Nat.le_of_ble_eq_true rfl) (m_laySign 58 _ hA4.1 (by omega) (by omega)) ?_
    rintro _ _ _ ⟨rfl, rfl, w5, rfl, o1, o2, o3, o4⟩
    refine ⟨by decide, ?_⟩
    rw [if_pos rfl]
    try dsimp only
    have hk5 : px_k 58 = 2 := by { unfold px_k; rw [if_neg (by omega), if_neg (by omega), if_neg (by omega), if_pos (by omega)] }
    have hxe5 := xadd_e (c := 58) hJ4 (by omega) (by omega) (fun e => by omega)
    have hJ5 := xJ_ap (c := 58) hJ4 (by omega) (by omega) (fun e => by omega)
    rw [if_neg (show ¬ px_k 58 = 3 by omega)] at hJ5
    have hA5 := Ah_ap hA4 rfl o3 o4
    rw [← hxe5] at hA5 hJ5
    have hm5 := mah_t hm4 ⟨o1, o2⟩
    have hl5 : (xadd (xnum (xadd (xadd (xadd x0 (sl r)) (sl r)) 32) y) 58).1 = (xnum (xadd (xadd (xadd x0 (sl r)) (sl r)) 32) y).1 + 1 := by { rw [hxe5]; rfl }
    have esg : (58 : Int) = (if (r.tdiv 16).tmod 4 = 0 then 61 else 58) := (if_neg (by omega)).symm
    rw [esg] at hA5 hJ5 hl5 hxe5
    show mv_Ev _ _ 60 _ _ _ _ _
    refine e_step (pc' := 61) hK rfl rfl rfl ?_
    refine e_step (pc' := 63) hK rfl rfl rfl ?_
    refine e_step (pc' := 64) hK rfl rfl rfl ?_
    refine e_step (pc' := 66) hK rfl rfl rfl ?_
    refine e_idiv (pc' := 67) hK rfl (by omega) (by omega) (by omega) rfl ?_
    refine e_step (pc' := 68) hK rfl rfl rfl ?_
    refine e_irem (pc' := 69) hK rfl (by omega) (by omega) (by omega) rfl ?_
    refine e_step (pc' := 70) hK rfl rfl rfl ?_
    refine e_cQV2 (z := 181) hK rfl rfl (by first | (simp (disch := omega) only [mH_t64, mH_r1, mH_r3, mH_r4, mH_r5, mH_r6, mH_r8, mH_r9, mH_r10, mH_r11, mH_r12, mH_r14, mH_i0, mH_i2, mH_i7, mH_i13, mH_i15, mH_t71, mH_t, mH_lr, mH_l65, mH_l69, mH_l70, mH_l71, mH_l72, mH_l73, mH_l74, mH_l75, mH_c, gu_n, gu_s]; rfl) | (show _ = 2; assumption) | (show _ = 1; assumption) | (show _ = 0; assumption) | (show _ = 3; assumption) | (show _ = 4; assumption)) rfl (Nat.le_of_ble_eq_true rfl) (Nat.le_of_ble_eq_true rfl) (m_laySign (109 + (r.tdiv 64).tmod 5) _ hA5.1 (by omega) (by omega)) ?_
    rintro _ _ _ ⟨rfl, rfl, w6, rfl, o1, o2, o3, o4⟩
    refine ⟨by decide, ?_⟩
    rw [if_pos rfl]
    try dsimp only
    have hk6 : px_k (109 + (r.tdiv 64).tmod 5) = 0 := by { unfold px_k; rw [if_pos (by omega)] }
    have hxe6 := xadd_e (c := (109 + (r.tdiv 64).tmod 5)) hJ5 (by omega) (by omega) (fun e => by omega)
    have hJ6 := xJ_ap (c := (109 + (r.tdiv 64).tmod 5)) hJ5 (by omega) (by omega) (fun e => by omega)
    rw [if_neg (show ¬ px_k (109 + (r.tdiv 64).tmod 5) = 3 by omega)] at hJ6
    have hA6 := Ah_ap hA5 rfl o3 o4
    rw [← hxe6] at hA6 hJ6
    have hm6 := mah_t hm5 ⟨o1, o2⟩
    have hl6 : (xadd (xadd (xnum (xadd (xadd (xadd x0 (sl r)) (sl r)) 32) y) (if (r.tdiv 16).tmod 4 = 0 then 61 else 58)) (109 + (r.tdiv 64).tmod 5)).1 = (xadd (xnum (xadd (xadd (xadd x0 (sl r)) (sl r)) 32) y) (if (r.tdiv 16).tmod 4 = 0 then 61 else 58)).1 + 1 := by { rw [hxe6]; rfl }
    show mv_Ev _ _ 73 _ _ _ _ _
    refine e_step (pc' := 74) hK rfl rfl rfl ?_
    refine e_step (pc' := 76) hK rfl rfl rfl ?_
    refine e_idiv (pc' := 77) hK rfl (by omega) (by omega) (by omega) rfl ?_
    refine e_step (pc' := 78) hK rfl rfl rfl ?_
    refine e_irem (pc' := 79) hK rfl (by omega) (by omega) (by omega) rfl ?_
    refine e_if (t := 100) (pc' := 82) hK rfl (by omega) (by decide) rfl (fun hb79 => ?_) (fun hb79 => ?_)
    · replace hb79 := cq_ne.1.mp hb79
      have hst : stx r y = (xadd (xadd (xnum (xadd (xadd (xadd x0 (sl r)) (sl r)) 32) y) (if (r.tdiv 16).tmod 4 = 0 then 61 else 58)) (109 + (r.tdiv 64).tmod 5)) := by { unfold stx sx; rw [if_neg hb79] }
      have e267 : w6 267 = v 267 := hm6.1 267 (by omega) (by omega)
      have e7r : w6 267 0 = gn D := by { rw [e267]; exact r0 }
      refine e_step (pc' := 101) hK rfl rfl rfl ?_
      refine e_getR (ci := 4) (k := 4) (pc' := 104) hK rfl (by simp (disch := omega) only [mH_t64, mH_r1, mH_r3, mH_r4, mH_r5, mH_r6, mH_r8, mH_r9, mH_r10, mH_r11, mH_r12, mH_r14, mH_i0, mH_i2, mH_i7, mH_i13, mH_i15, mH_t71, mH_t, mH_lr, mH_l65, mH_l69, mH_l70, mH_l71, mH_l72, mH_l73, mH_l74, mH_l75, mH_c, gu_n, gu_s, e7r]) rfl rfl (by decide) (by decide) (by (try simp (disch := omega) only [mH_t64, mH_r1, mH_r3, mH_r4, mH_r5, mH_r6, mH_r8, mH_r9, mH_r10, mH_r11, mH_r12, mH_r14, mH_i0, mH_i2, mH_i7, mH_i13, mH_i15, mH_t71, mH_t, mH_lr, mH_l65, mH_l69, mH_l70, mH_l71, mH_l72, mH_l73, mH_l74, mH_l75, mH_c, gu_n, gu_s, e7r]); omega) rfl ?_
      try simp (disch := omega) only [mH_t64, mH_r1, mH_r3, mH_r4, mH_r5, mH_r6, mH_r8, mH_r9, mH_r10, mH_r11, mH_r12, mH_r14, mH_i0, mH_i2, mH_i7, mH_i13, mH_i15, mH_t71, mH_t, mH_lr, mH_l65, mH_l69, mH_l70, mH_l71, mH_l72, mH_l73, mH_l74, mH_l75, mH_c, gu_n, gu_s, e7r]
      refine e_step (pc' := 105) hK rfl rfl rfl ?_
      refine e_iald (pc' := 106) hK rfl (by simp (disch := omega) only [mH_t64, mH_r1, mH_r3, mH_r4, mH_r5, mH_r6, mH_r8, mH_r9, mH_r10, mH_r11, mH_r12, mH_r14, mH_i0, mH_i2, mH_i7, mH_i13, mH_i15, mH_t71, mH_t, mH_lr, mH_l65, mH_l69, mH_l70, mH_l71, mH_l72, mH_l73, mH_l74, mH_l75, mH_c, gu_n, gu_s, e7r]) (by omega) (by (try simp (disch := omega) only [mH_t64, mH_r1, mH_r3, mH_r4, mH_r5, mH_r6, mH_r8, mH_r9, mH_r10, mH_r11, mH_r12, mH_r14, mH_i0, mH_i2, mH_i7, mH_i13, mH_i15, mH_t71, mH_t, mH_lr, mH_l65, mH_l69, mH_l70, mH_l71, mH_l72, mH_l73, mH_l74, mH_l75, mH_c, gu_n, gu_s, e7r]); omega) rfl ?_
      try simp (disch := omega) only [mH_t64, mH_r1, mH_r3, mH_r4, mH_r5, mH_r6, mH_r8, mH_r9, mH_r10, mH_r11, mH_r12, mH_r14, mH_i0, mH_i2, mH_i7, mH_i13, mH_i15, mH_t71, mH_t, mH_lr, mH_l65, mH_l69, mH_l70, mH_l71, mH_l72, mH_l73, mH_l74, mH_l75, mH_c, gu_n, gu_s, e7r]
      refine e_cRS1 (z := 116) (pc' := 109) hK rfl rfl rfl (Nat.le_of_ble_eq_true rfl) (Nat.le_of_ble_eq_true rfl) (m_lineAt (gn D : Int)) (by decide) rfl ?_
      try simp (disch := omega) only [mH_t64, mH_r1, mH_r3, mH_r4, mH_r5, mH_r6, mH_r8, mH_r9, mH_r10, mH_r11, mH_r12, mH_r14, mH_i0, mH_i2, mH_i7, mH_i13, mH_i15, mH_t71, mH_t, mH_lr, mH_l65, mH_l69, mH_l70, mH_l71, mH_l72, mH_l73, mH_l74, mH_l75, mH_c, gu_n, gu_s, e7r]
      refine e_step (pc' := 110) hK rfl rfl rfl ?_
      try simp only [List.set_cons_zero, List.set_cons_succ]
      refine e_step (pc' := 111) hK rfl rfl rfl ?_
      refine e_getR (ci := 4) (k := 4) (pc' := 114) hK rfl (by simp (disch := omega) only [mH_t64, mH_r1, mH_r3, mH_r4, mH_r5, mH_r6, mH_r8, mH_r9, mH_r10, mH_r11, mH_r12, mH_r14, mH_i0, mH_i2, mH_i7, mH_i13, mH_i15, mH_t71, mH_t, mH_lr, mH_l65, mH_l69, mH_l70, mH_l71, mH_l72, mH_l73, mH_l74, mH_l75, mH_c, gu_n, gu_s, e7r]) rfl rfl (by decide) (by decide) (by (try simp (disch := omega) only [mH_t64, mH_r1, mH_r3, mH_r4, mH_r5, mH_r6, mH_r8, mH_r9, mH_r10, mH_r11, mH_r12, mH_r14, mH_i0, mH_i2, mH_i7, mH_i13, mH_i15, mH_t71, mH_t, mH_lr, mH_l65, mH_l69, mH_l70, mH_l71, mH_l72, mH_l73, mH_l74, mH_l75, mH_c, gu_n, gu_s, e7r]); omega) rfl ?_
      try simp (disch := omega) only [mH_t64, mH_r1, mH_r3, mH_r4, mH_r5, mH_r6, mH_r8, mH_r9, mH_r10, mH_r11, mH_r12, mH_r14, mH_i0, mH_i2, mH_i7, mH_i13, mH_i15, mH_t71, mH_t, mH_lr, mH_l65, mH_l69, mH_l70, mH_l71, mH_l72, mH_l73, mH_l74, mH_l75, mH_c, gu_n, gu_s, e7r]
      refine e_step (pc' := 115) hK rfl rfl rfl ?_
      refine e_step (pc' := 116) hK rfl rfl rfl ?_
      refine e_getI (ci := 4) (k := 15) (pc' := 119) hK rfl (by simp (disch := omega) only [mH_t64, mH_r1, mH_r3, mH_r4, mH_r5, mH_r6, mH_r8, mH_r9, mH_r10, mH_r11, mH_r12, mH_r14, mH_i0, mH_i2, mH_i7, mH_i13, mH_i15, mH_t71, mH_t, mH_lr, mH_l65, mH_l69, mH_l70, mH_l71, mH_l72, mH_l73, mH_l74, mH_l75, mH_c, gu_n, gu_s, e7r]) rfl rfl (by decide) (by decide) rfl ?_
      try simp (disch := omega) only [mH_t64, mH_r1, mH_r3, mH_r4, mH_r5, mH_r6, mH_r8, mH_r9, mH_r10, mH_r11, mH_r12, mH_r14, mH_i0, mH_i2, mH_i7, mH_i13, mH_i15, mH_t71, mH_t, mH_lr, mH_l65, mH_l69, mH_l70, mH_l71, mH_l72, mH_l73, mH_l74, mH_l75, mH_c, gu_n, gu_s, e7r]
      refine e_iast (pc' := 120) hK rfl (by simp (disch := omega) only [mH_t64, mH_r1, mH_r3, mH_r4, mH_r5, mH_r6, mH_r8, mH_r9, mH_r10, mH_r11, mH_r12, mH_r14, mH_i0, mH_i2, mH_i7, mH_i13, mH_i15, mH_t71, mH_t, mH_lr, mH_l65, mH_l69, mH_l70, mH_l71, mH_l72, mH_l73, mH_l74, mH_l75, mH_c, gu_n, gu_s, e7r]) (by omega) (by (try simp (disch := omega) only [mH_t64, mH_r1, mH_r3, mH_r4, mH_r5, mH_r6, mH_r8, mH_r9, mH_r10, mH_r11, mH_r12, mH_r14, mH_i0, mH_i2, mH_i7, mH_i13, mH_i15, mH_t71, mH_t, mH_lr, mH_l65, mH_l69, mH_l70, mH_l71, mH_l72, mH_l73, mH_l74, mH_l75, mH_c, gu_n, gu_s, e7r]); omega) rfl ?_
      simp (disch := omega) only [mW_0, mW_2, mW_7, mW_13, mW_15, mW_a, gu_s]
      refine e_step (pc' := 121) hK rfl rfl rfl ?_
      refine e_getR (ci := 4) (k := 4) (pc' := 124) hK rfl (by simp (disch := omega) only [mH_t64, mH_r1, mH_r3, mH_r4, mH_r5, mH_r6, mH_r8, mH_r9, mH_r10, mH_r11, mH_r12, mH_r14, mH_i0, mH_i2, mH_i7, mH_i13, mH_i15, mH_t71, mH_t, mH_lr, mH_l65, mH_l69, mH_l70, mH_l71, mH_l72, mH_l73, mH_l74, mH_l75, mH_c, gu_n, gu_s, e7r]) rfl rfl (by decide) (by decide) (by (try simp (disch := omega) only [mH_t64, mH_r1, mH_r3, mH_r4, mH_r5, mH_r6, mH_r8, mH_r9, mH_r10, mH_r11, mH_r12, mH_r14, mH_i0, mH_i2, mH_i7, mH_i13, mH_i15, mH_t71, mH_t, mH_lr, mH_l65, mH_l69, mH_l70, mH_l71, mH_l72, mH_l73, mH_l74, mH_l75, mH_c, gu_n, gu_s, e7r]); omega) rfl ?_
      try simp (disch := omega) only [mH_t64, mH_r1, mH_r3, mH_r4, mH_r5, mH_r6, mH_r8, mH_r9, mH_r10, mH_r11, mH_r12, mH_r14, mH_i0, mH_i2, mH_i7, mH_i13, mH_i15, mH_t71, mH_t, mH_lr, mH_l65, mH_l69, mH_l70, mH_l71, mH_l72, mH_l73, mH_l74, mH_l75, mH_c, gu_n, gu_s, e7r]
      refine e_step (pc' := 125) hK rfl rfl rfl ?_
      refine e_step (pc' := 126) hK rfl rfl rfl ?_
      refine e_step (pc' := 127) hK rfl rfl rfl ?_
      refine e_step (pc' := 130) hK rfl rfl rfl ?_
      refine e_iast (pc' := 131) hK rfl (by simp (disch := omega) only [mH_t64, mH_r1, mH_r3, mH_r4, mH_r5, mH_r6, mH_r8, mH_r9, mH_r10, mH_r11, mH_r12, mH_r14, mH_i0, mH_i2, mH_i7, mH_i13, mH_i15, mH_t71, mH_t, mH_lr, mH_l65, mH_l69, mH_l70, mH_l71, mH_l72, mH_l73, mH_l74, mH_l75, mH_c, gu_n, gu_s, e7r]) (by omega) (by (try simp (disch := omega) only [mH_t64, mH_r1, mH_r3, mH_r4, mH_r5, mH_r6, mH_r8, mH_r9, mH_r10, mH_r11, mH_r12, mH_r14, mH_i0, mH_i2, mH_i7, mH_i13, mH_i15, mH_t71, mH_t, mH_lr, mH_l65, mH_l69, mH_l70, mH_l71, mH_l72, mH_l73, mH_l74, mH_l75, mH_c, gu_n, gu_s, e7r]); omega) rfl ?_
      simp (disch := omega) only [mW_0, mW_2, mW_7, mW_13, mW_15, mW_a, gu_s]
      refine e_step (pc' := 132) hK rfl rfl rfl ?_
      refine e_step (pc' := 134) hK rfl rfl rfl ?_
      try simp only [List.set_cons_zero, List.set_cons_succ]
      refine (g_drawC (v0 := gu (gu w6 267 (mv_up (w6 267) (2 + 42 * (gn D : Int)) (w6 264 15))) 267 (mv_up (mv_up (w6 267) (2 + 42 * (gn D : Int)) (w6 264 15)) (2 + 42 * (gn D : Int) + 1) (-9999))) hz (xadd (xadd (xnum (xadd (xadd (xadd x0 (sl r)) (sl r)) 32) y) (if (r.tdiv 16).tmod 4 = 0 then 61 else 58)) (109 + (r.tdiv 64).tmod 5)) (by omega) _ _ (xadd (xadd (xnum (xadd (xadd (xadd x0 (sl r)) (sl r)) 32) y) (if (r.tdiv 16).tmod 4 = 0 then 61 else 58)) (109 + (r.tdiv 64).tmod 5)).1 0 _ ⟨by omega, ⟨?_, fun k k0 k1 => ?_⟩, fun b _ => rfl, ?_, fun q q0 q1 => by omega, fun q _ => rfl, ?_⟩).mono (fun r' c' h' hq => ?_)
      · rw [gu_n (by omega), gu_n (by omega)]; exact hA6.1
      · rw [gu_n (by omega), gu_n (by omega)]; exact hA6.2 k k0 k1
      · rw [gu_s, up_n (by omega), up_s]; exact hA6.1
      · rw [gu_n (by omega), gu_n (by omega)]; exact hA6.1
      · obtain ⟨q1, q2, w9, q3, q4, q5, q6⟩ := hq
        refine ⟨q1, q2, w9, q3, fun b n1 n2 n3 => ?_, fun k n1 => ?_, by rw [hst]; exact q5, by rw [hst]; exact hJ6.1, fun q hq => ?_⟩
        · rw [q4 b n2, gu_n n2, gu_n n2]; exact hm6.1 b n1 n3
        · rw [q4 264 (by omega), gu_n (by omega), gu_n (by omega)]; exact hm6.2 k n1
        · rw [q6 q hq, gu_s, up_n (by omega), up_n (by omega), e267]
    · replace hb79 := cq_ne.2.mp hb79
      refine e_step (pc' := 83) hK rfl rfl rfl ?_
      refine e_step (pc' := 85) hK rfl rfl rfl ?_
      refine e_cQV2 (z := 181) hK rfl rfl (by first | (simp (disch := omega) only [mH_t64, mH_r1, mH_r3, mH_r4, mH_r5, mH_r6, mH_r8, mH_r9, mH_r10, mH_r11, mH_r12, mH_r14, mH_i0, mH_i2, mH_i7, mH_i13, mH_i15, mH_t71, mH_t, mH_lr, mH_l65, mH_l69, mH_l70, mH_l71, mH_l72, mH_l73, mH_l74, mH_l75, mH_c, gu_n, gu_s]; rfl) | (show _ = 2; assumption) | (show _ = 1; assumption) | (show _ = 0; assumption) | (show _ = 3; assumption) | (show _ = 4; assumption)) rfl (Nat.le_of_ble_eq_true rfl) (Nat.le_of_ble_eq_true rfl) (m_laySign 32 _ hA6.1 (by omega) (by omega)) ?_
      rintro _ _ _ ⟨rfl, rfl, w7, rfl, o1, o2, o3, o4⟩
      refine ⟨by decide, ?_⟩
      rw [if_pos rfl]
      try dsimp only
      have hk7 : px_k 32 = 1 := by { unfold px_k; rw [if_neg (by omega), if_neg (by omega), if_pos (by omega)] }
      have hxe7 := xadd_e (c := 32) hJ6 (by omega) (by omega) (fun e => by omega)
      have hJ7 := xJ_ap (c := 32) hJ6 (by omega) (by omega) (fun e => by omega)
      rw [if_neg (show ¬ px_k 32 = 3 by omega)] at hJ7
      have hA7 := Ah_ap hA6 rfl o3 o4
      rw [← hxe7] at hA7 hJ7
      have hm7 := mah_t hm6 ⟨o1, o2⟩
      have hl7 : (xadd (xadd (xadd (xnum (xadd (xadd (xadd x0 (sl r)) (sl r)) 32) y) (if (r.tdiv 16).tmod 4 = 0 then 61 else 58)) (109 + (r.tdiv 64).tmod 5)) 32).1 = (xadd (xadd (xnum (xadd (xadd (xadd x0 (sl r)) (sl r)) 32) y) (if (r.tdiv 16).tmod 4 = 0 then 61 else 58)) (109 + (r.tdiv 64).tmod 5)).1 + 1 := by { rw [hxe7]; rfl }
      show mv_Ev _ _ 88 _ _ _ _ _
      refine e_step (pc' := 89) hK rfl rfl rfl ?_
      refine e_step (pc' := 90) hK rfl rfl rfl ?_
      refine e_step (pc' := 93) hK rfl rfl rfl ?_
      refine e_idiv (pc' := 94) hK rfl (by omega) (by omega) (by omega) rfl ?_
      refine e_step (pc' := 96) hK rfl rfl rfl ?_
      refine e_irem (pc' := 97) hK rfl (by omega) (by omega) (by omega) rfl ?_
      refine e_cQV2 (z := 182) hK rfl rfl (by first | (simp (disch := omega) only [mH_t64, mH_r1, mH_r3, mH_r4, mH_r5, mH_r6, mH_r8, mH_r9, mH_r10, mH_r11, mH_r12, mH_r14, mH_i0, mH_i2, mH_i7, mH_i13, mH_i15, mH_t71, mH_t, mH_lr, mH_l65, mH_l69, mH_l70, mH_l71, mH_l72, mH_l73, mH_l74, mH_l75, mH_c, gu_n, gu_s]; rfl) | (show _ = 2; assumption) | (show _ = 1; assumption) | (show _ = 0; assumption) | (show _ = 3; assumption) | (show _ = 4; assumption)) rfl (Nat.le_of_ble_eq_true rfl) (Nat.le_of_ble_eq_true rfl) (m_layDigits ((r.tdiv 512).tmod 50) (by omega) (by omega) (dgn ((r.tdiv 512).tmod 50)).toNat hE1 (by omega) _ hA7.1 (by omega) (by omega)) ?_
      rintro _ _ _ ⟨rfl, rfl, w8, rfl, o1, o2, o3, o4⟩
      refine ⟨by decide, ?_⟩
      rw [if_pos rfl]
      try dsimp only
      obtain ⟨hA8, hJ8, hl8⟩ := Ah_num (by omega) hE1 hJ7 (by omega) (by omega) hA7 rfl o3 o4
      have hm8 := mah_t hm7 ⟨o1, o2⟩
      show mv_Ev _ _ 100 _ _ _ _ _
      have hst : stx r y = (xnum (xadd (xadd (xadd (xnum (xadd (xadd (xadd x0 (sl r)) (sl r)) 32) y) (if (r.tdiv 16).tmod 4 = 0 then 61 else 58)) (109 + (r.tdiv 64).tmod 5)) 32) ((r.tdiv 512).tmod 50)) := by { unfold stx sx; rw [if_pos hb79] }
      have e267 : w8 267 = v 267 := hm8.1 267 (by omega) (by omega)
      have e7r : w8 267 0 = gn D := by { rw [e267]; exact r0 }
      refine e_step (pc' := 101) hK rfl rfl rfl ?_
      refine e_getR (ci := 4) (k := 4) (pc' := 104) hK rfl (by simp (disch := omega) only [mH_t64, mH_r1, mH_r3, mH_r4, mH_r5, mH_r6, mH_r8, mH_r9, mH_r10, mH_r11, mH_r12, mH_r14, mH_i0, mH_i2, mH_i7, mH_i13, mH_i15, mH_t71, mH_t, mH_lr, mH_l65, mH_l69, mH_l70, mH_l71, mH_l72, mH_l73, mH_l74, mH_l75, mH_c, gu_n, gu_s, e7r]) rfl rfl (by decide) (by decide) (by (try simp (disch := omega) only [mH_t64, mH_r1, mH_r3, mH_r4, mH_r5, mH_r6, mH_r8, mH_r9, mH_r10, mH_r11, mH_r12, mH_r14, mH_i0, mH_i2, mH_i7, mH_i13, mH_i15, mH_t71, mH_t, mH_lr, mH_l65, mH_l69, mH_l70, mH_l71, mH_l72, mH_l73, mH_l74, mH_l75, mH_c, gu_n, gu_s, e7r]); omega) rfl ?_
      try simp (disch := omega) only [mH_t64, mH_r1, mH_r3, mH_r4, mH_r5, mH_r6, mH_r8, mH_r9, mH_r10, mH_r11, mH_r12, mH_r14, mH_i0, mH_i2, mH_i7, mH_i13, mH_i15, mH_t71, mH_t, mH_lr, mH_l65, mH_l69, mH_l70, mH_l71, mH_l72, mH_l73, mH_l74, mH_l75, mH_c, gu_n, gu_s, e7r]
      refine e_step (pc' := 105) hK rfl rfl rfl ?_
      refine e_iald (pc' := 106) hK rfl (by simp (disch := omega) only [mH_t64, mH_r1, mH_r3, mH_r4, mH_r5, mH_r6, mH_r8, mH_r9, mH_r10, mH_r11, mH_r12, mH_r14, mH_i0, mH_i2, mH_i7, mH_i13, mH_i15, mH_t71, mH_t, mH_lr, mH_l65, mH_l69, mH_l70, mH_l71, mH_l72, mH_l73, mH_l74, mH_l75, mH_c, gu_n, gu_s, e7r]) (by omega) (by (try simp (disch := omega) only [mH_t64, mH_r1, mH_r3, mH_r4, mH_r5, mH_r6, mH_r8, mH_r9, mH_r10, mH_r11, mH_r12, mH_r14, mH_i0, mH_i2, mH_i7, mH_i13, mH_i15, mH_t71, mH_t, mH_lr, mH_l65, mH_l69, mH_l70, mH_l71, mH_l72, mH_l73, mH_l74, mH_l75, mH_c, gu_n, gu_s, e7r]); omega) rfl ?_
      try simp (disch := omega) only [mH_t64, mH_r1, mH_r3, mH_r4, mH_r5, mH_r6, mH_r8, mH_r9, mH_r10, mH_r11, mH_r12, mH_r14, mH_i0, mH_i2, mH_i7, mH_i13, mH_i15, mH_t71, mH_t, mH_lr, mH_l65, mH_l69, mH_l70, mH_l71, mH_l72, mH_l73, mH_l74, mH_l75, mH_c, gu_n, gu_s, e7r]
      refine e_cRS1 (z := 116) (pc' := 109) hK rfl rfl rfl (Nat.le_of_ble_eq_true rfl) (Nat.le_of_ble_eq_true rfl) (m_lineAt (gn D : Int)) (by decide) rfl ?_
      try simp (disch := omega) only [mH_t64, mH_r1, mH_r3, mH_r4, mH_r5, mH_r6, mH_r8, mH_r9, mH_r10, mH_r11, mH_r12, mH_r14, mH_i0, mH_i2, mH_i7, mH_i13, mH_i15, mH_t71, mH_t, mH_lr, mH_l65, mH_l69, mH_l70, mH_l71, mH_l72, mH_l73, mH_l74, mH_l75, mH_c, gu_n, gu_s, e7r]
      refine e_step (pc' := 110) hK rfl rfl rfl ?_
      try simp only [List.set_cons_zero, List.set_cons_succ]
      refine e_step (pc' := 111) hK rfl rfl rfl ?_
      refine e_getR (ci := 4) (k := 4) (pc' := 114) hK rfl (by simp (disch := omega) only [mH_t64, mH_r1, mH_r3, mH_r4, mH_r5, mH_r6, mH_r8, mH_r9, mH_r10, mH_r11, mH_r12, mH_r14, mH_i0, mH_i2, mH_i7, mH_i13, mH_i15, mH_t71, mH_t, mH_lr, mH_l65, mH_l69, mH_l70, mH_l71, mH_l72, mH_l73, mH_l74, mH_l75, mH_c, gu_n, gu_s, e7r]) rfl rfl (by decide) (by decide) (by (try simp (disch := omega) only [mH_t64, mH_r1, mH_r3, mH_r4, mH_r5, mH_r6, mH_r8, mH_r9, mH_r10, mH_r11, mH_r12, mH_r14, mH_i0, mH_i2, mH_i7, mH_i13, mH_i15, mH_t71, mH_t, mH_lr, mH_l65, mH_l69, mH_l70, mH_l71, mH_l72, mH_l73, mH_l74, mH_l75, mH_c, gu_n, gu_s, e7r]); omega) rfl ?_
      try simp (disch := omega) only [mH_t64, mH_r1, mH_r3, mH_r4, mH_r5, mH_r6, mH_r8, mH_r9, mH_r10, mH_r11, mH_r12, mH_r14, mH_i0, mH_i2, mH_i7, mH_i13, mH_i15, mH_t71, mH_t, mH_lr, mH_l65, mH_l69, mH_l70, mH_l71, mH_l72, mH_l73, mH_l74, mH_l75, mH_c, gu_n, gu_s, e7r]
      refine e_step (pc' := 115) hK rfl rfl rfl ?_
      refine e_step (pc' := 116) hK rfl rfl rfl ?_
      refine e_getI (ci := 4) (k := 15) (pc' := 119) hK rfl (by simp (disch := omega) only [mH_t64, mH_r1, mH_r3, mH_r4, mH_r5, mH_r6, mH_r8, mH_r9, mH_r10, mH_r11, mH_r12, mH_r14, mH_i0, mH_i2, mH_i7, mH_i13, mH_i15, mH_t71, mH_t, mH_lr, mH_l65, mH_l69, mH_l70, mH_l71, mH_l72, mH_l73, mH_l74, mH_l75, mH_c, gu_n, gu_s, e7r]) rfl rfl (by decide) (by decide) rfl ?_
      try simp (disch := omega) only [mH_t64, mH_r1, mH_r3, mH_r4, mH_r5, mH_r6, mH_r8, mH_r9, mH_r10, mH_r11, mH_r12, mH_r14, mH_i0, mH_i2, mH_i7, mH_i13, mH_i15, mH_t71, mH_t, mH_lr, mH_l65, mH_l69, mH_l70, mH_l71, mH_l72, mH_l73, mH_l74, mH_l75, mH_c, gu_n, gu_s, e7r]
      refine e_iast (pc' := 120) hK rfl (by simp (disch := omega) only [mH_t64, mH_r1, mH_r3, mH_r4, mH_r5, mH_r6, mH_r8, mH_r9, mH_r10, mH_r11, mH_r12, mH_r14, mH_i0, mH_i2, mH_i7, mH_i13, mH_i15, mH_t71, mH_t, mH_lr, mH_l65, mH_l69, mH_l70, mH_l71, mH_l72, mH_l73, mH_l74, mH_l75, mH_c, gu_n, gu_s, e7r]) (by omega) (by (try simp (disch := omega) only [mH_t64, mH_r1, mH_r3, mH_r4, mH_r5, mH_r6, mH_r8, mH_r9, mH_r10, mH_r11, mH_r12, mH_r14, mH_i0, mH_i2, mH_i7, mH_i13, mH_i15, mH_t71, mH_t, mH_lr, mH_l65, mH_l69, mH_l70, mH_l71, mH_l72, mH_l73, mH_l74, mH_l75, mH_c, gu_n, gu_s, e7r]); omega) rfl ?_
      simp (disch := omega) only [mW_0, mW_2, mW_7, mW_13, mW_15, mW_a, gu_s]
      refine e_step (pc' := 121) hK rfl rfl rfl ?_
      refine e_getR (ci := 4) (k := 4) (pc' := 124) hK rfl (by simp (disch := omega) only [mH_t64, mH_r1, mH_r3, mH_r4, mH_r5, mH_r6, mH_r8, mH_r9, mH_r10, mH_r11, mH_r12, mH_r14, mH_i0, mH_i2, mH_i7, mH_i13, mH_i15, mH_t71, mH_t, mH_lr, mH_l65, mH_l69, mH_l70, mH_l71, mH_l72, mH_l73, mH_l74, mH_l75, mH_c, gu_n, gu_s, e7r]) rfl rfl (by decide) (by decide) (by (try simp (disch := omega) only [mH_t64, mH_r1, mH_r3, mH_r4, mH_r5, mH_r6, mH_r8, mH_r9, mH_r10, mH_r11, mH_r12, mH_r14, mH_i0, mH_i2, mH_i7, mH_i13, mH_i15, mH_t71, mH_t, mH_lr, mH_l65, mH_l69, mH_l70, mH_l71, mH_l72, mH_l73, mH_l74, mH_l75, mH_c, gu_n, gu_s, e7r]); omega) rfl ?_
      try simp (disch := omega) only [mH_t64, mH_r1, mH_r3, mH_r4, mH_r5, mH_r6, mH_r8, mH_r9, mH_r10, mH_r11, mH_r12, mH_r14, mH_i0, mH_i2, mH_i7, mH_i13, mH_i15, mH_t71, mH_t, mH_lr, mH_l65, mH_l69, mH_l70, mH_l71, mH_l72, mH_l73, mH_l74, mH_l75, mH_c, gu_n, gu_s, e7r]
      refine e_step (pc' := 125) hK rfl rfl rfl ?_
      refine e_step (pc' := 126) hK rfl rfl rfl ?_
      refine e_step (pc' := 127) hK rfl rfl rfl ?_
      refine e_step (pc' := 130) hK rfl rfl rfl ?_
      refine e_iast (pc' := 131) hK rfl (by simp (disch := omega) only [mH_t64, mH_r1, mH_r3, mH_r4, mH_r5, mH_r6, mH_r8, mH_r9, mH_r10, mH_r11, mH_r12, mH_r14, mH_i0, mH_i2, mH_i7, mH_i13, mH_i15, mH_t71, mH_t, mH_lr, mH_l65, mH_l69, mH_l70, mH_l71, mH_l72, mH_l73, mH_l74, mH_l75, mH_c, gu_n, gu_s, e7r]) (by omega) (by (try simp (disch := omega) only [mH_t64, mH_r1, mH_r3, mH_r4, mH_r5, mH_r6, mH_r8, mH_r9, mH_r10, mH_r11, mH_r12, mH_r14, mH_i0, mH_i2, mH_i7, mH_i13, mH_i15, mH_t71, mH_t, mH_lr, mH_l65, mH_l69, mH_l70, mH_l71, mH_l72, mH_l73, mH_l74, mH_l75, mH_c, gu_n, gu_s, e7r]); omega) rfl ?_
      simp (disch := omega) only [mW_0, mW_2, mW_7, mW_13, mW_15, mW_a, gu_s]
      refine e_step (pc' := 132) hK rfl rfl rfl ?_
      refine e_step (pc' := 134) hK rfl rfl rfl ?_
      try simp only [List.set_cons_zero, List.set_cons_succ]
      refine (g_drawC (v0 := gu (gu w8 267 (mv_up (w8 267) (2 + 42 * (gn D : Int)) (w8 264 15))) 267 (mv_up (mv_up (w8 267) (2 + 42 * (gn D : Int)) (w8 264 15)) (2 + 42 * (gn D : Int) + 1) (-9999))) hz (xnum (xadd (xadd (xadd (xnum (xadd (xadd (xadd x0 (sl r)) (sl r)) 32) y) (if (r.tdiv 16).tmod 4 = 0 then 61 else 58)) (109 + (r.tdiv 64).tmod 5)) 32) ((r.tdiv 512).tmod 50)) (by omega) _ _ (xnum (xadd (xadd (xadd (xnum (xadd (xadd (xadd x0 (sl r)) (sl r)) 32) y) (if (r.tdiv 16).tmod 4 = 0 then 61 else 58)) (109 + (r.tdiv 64).tmod 5)) 32) ((r.tdiv 512).tmod 50)).1 0 _ ⟨by omega, ⟨?_, fun k k0 k1 => ?_⟩, fun b _ => rfl, ?_, fun q q0 q1 => by omega, fun q _ => rfl, ?_⟩).mono (fun r' c' h' hq => ?_)
      · rw [gu_n (by omega), gu_n (by omega)]; exact hA8.1
      · rw [gu_n (by omega), gu_n (by omega)]; exact hA8.2 k k0 k1
      · rw [gu_s, up_n (by omega), up_s]; exact hA8.1
      · rw [gu_n (by omega), gu_n (by omega)]; exact hA8.1
      · obtain ⟨q1, q2, w9, q3, q4, q5, q6⟩ := hq
        refine ⟨q1, q2, w9, q3, fun b n1 n2 n3 => ?_, fun k n1 => ?_, by rw [hst]; exact q5, by rw [hst]; exact hJ8.1, fun q hq => ?_⟩
        · rw [q4 b n2, gu_n n2, gu_n n2]; exact hm8.1 b n1 n3
        · rw [q4 264 (by omega), gu_n (by omega), gu_n (by omega)]; exact hm8.2 k n1
        · rw [q6 q hq, gu_s, up_n (by omega), up_n (by omega), e267]
  · replace hb47 := cq_ne.2.mp hb47
    refine e_step (pc' := 52) hK rfl rfl rfl ?_
    refine e_goto (t := 57) hK rfl (by decide) ?_
    refine e_cQV2 (z := 181) hK rfl rfl (by first | (simp (disch := omega) only [mH_t64, mH_r1, mH_r3, mH_r4, mH_r5, mH_r6, mH_r8, mH_r9, mH_r10, mH_r11, mH_r12, mH_r14, mH_i0, mH_i2, mH_i7, mH_i13, mH_i15, mH_t71, mH_t, mH_lr, mH_l65, mH_l69, mH_l70, mH_l71, mH_l72, mH_l73, mH_l74, mH_l75, mH_c, gu_n, gu_s]; rfl) | (show _ = 2; assumption) | (show _ = 1; assumption) | (show _ = 0; assumption) | (show _ = 3; assumption) | (show _ = 4; assumption)) rfl (Nat.le_of_ble_eq_true rfl) (Nat.le_of_ble_eq_true rfl) (m_laySign 61 _ hA4.1 (by omega) (by omega)) ?_
    rintro _ _ _ ⟨rfl, rfl, w5, rfl, o1, o2, o3, o4⟩
    refine ⟨by decide, ?_⟩
    rw [if_pos rfl]
    try dsimp only
    have hk5 : px_k 61 = 2 := by { unfold px_k; rw [if_neg (by omega), if_neg (by omega), if_neg (by omega), if_pos (by omega)] }
    have hxe5 := xadd_e (c := 61) hJ4 (by omega) (by omega) (fun e => by omega)
    have hJ5 := xJ_ap (c := 61) hJ4 (by omega) (by omega) (fun e => by omega)
    rw [if_neg (show ¬ px_k 61 = 3 by omega)] at hJ5
    have hA5 := Ah_ap hA4 rfl o3 o4
    rw [← hxe5] at hA5 hJ5
    have hm5 := mah_t hm4 ⟨o1, o2⟩
    have hl5 : (xadd (xnum (xadd (xadd (xadd x0 (sl r)) (sl r)) 32) y) 61).1 = (xnum (xadd (xadd (xadd x0 (sl r)) (sl r)) 32) y).1 + 1 := by { rw [hxe5]; rfl }
    have esg : (61 : Int) = (if (r.tdiv 16).tmod 4 = 0 then 61 else 58) := (if_pos (by omega)).symm
    rw [esg] at hA5 hJ5 hl5 hxe5
    show mv_Ev _ _ 60 _ _ _ _ _
    refine e_step (pc' := 61) hK rfl rfl rfl ?_
    refine e_step (pc' := 63) hK rfl rfl rfl ?_
    refine e_step (pc' := 64) hK rfl rfl rfl ?_
    refine e_step (pc' := 66) hK rfl rfl rfl ?_
    refine e_idiv (pc' := 67) hK rfl (by omega) (by omega) (by omega) rfl ?_
    refine e_step (pc' := 68) hK rfl rfl rfl ?_
    refine e_irem (pc' := 69) hK rfl (by omega) (by omega) (by omega) rfl ?_
    refine e_step (pc' := 70) hK rfl rfl rfl ?_
    refine e_cQV2 (z := 181) hK rfl rfl (by first | (simp (disch := omega) only [mH_t64, mH_r1, mH_r3, mH_r4, mH_r5, mH_r6, mH_r8, mH_r9, mH_r10, mH_r11, mH_r12, mH_r14, mH_i0, mH_i2, mH_i7, mH_i13, mH_i15, mH_t71, mH_t, mH_lr, mH_l65, mH_l69, mH_l70, mH_l71, mH_l72, mH_l73, mH_l74, mH_l75, mH_c, gu_n, gu_s]; rfl) | (show _ = 2; assumption) | (show _ = 1; assumption) | (show _ = 0; assumption) | (show _ = 3; assumption) | (show _ = 4; assumption)) rfl (Nat.le_of_ble_eq_true rfl) (Nat.le_of_ble_eq_true rfl) (m_laySign (109 + (r.tdiv 64).tmod 5) _ hA5.1 (by omega) (by omega)) ?_
    rintro _ _ _ ⟨rfl, rfl, w6, rfl, o1, o2, o3, o4⟩
    refine ⟨by decide, ?_⟩
    rw [if_pos rfl]
    try dsimp only
    have hk6 : px_k (109 + (r.tdiv 64).tmod 5) = 0 := by { unfold px_k; rw [if_pos (by omega)] }
    have hxe6 := xadd_e (c := (109 + (r.tdiv 64).tmod 5)) hJ5 (by omega) (by omega) (fun e => by omega)
    have hJ6 := xJ_ap (c := (109 + (r.tdiv 64).tmod 5)) hJ5 (by omega) (by omega) (fun e => by omega)
    rw [if_neg (show ¬ px_k (109 + (r.tdiv 64).tmod 5) = 3 by omega)] at hJ6
    have hA6 := Ah_ap hA5 rfl o3 o4
    rw [← hxe6] at hA6 hJ6
    have hm6 := mah_t hm5 ⟨o1, o2⟩
    have hl6 : (xadd (xadd (xnum (xadd (xadd (xadd x0 (sl r)) (sl r)) 32) y) (if (r.tdiv 16).tmod 4 = 0 then 61 else 58)) (109 + (r.tdiv 64).tmod 5)).1 = (xadd (xnum (xadd (xadd (xadd x0 (sl r)) (sl r)) 32) y) (if (r.tdiv 16).tmod 4 = 0 then 61 else 58)).1 + 1 := by { rw [hxe6]; rfl }
    show mv_Ev _ _ 73 _ _ _ _ _
    refine e_step (pc' := 74) hK rfl rfl rfl ?_
    refine e_step (pc' := 76) hK rfl rfl rfl ?_
    refine e_idiv (pc' := 77) hK rfl (by omega) (by omega) (by omega) rfl ?_
    refine e_step (pc' := 78) hK rfl rfl rfl ?_
    refine e_irem (pc' := 79) hK rfl (by omega) (by omega) (by omega) rfl ?_
    refine e_if (t := 100) (pc' := 82) hK rfl (by omega) (by decide) rfl (fun hb79 => ?_) (fun hb79 => ?_)
    · replace hb79 := cq_ne.1.mp hb79
      have hst : stx r y = (xadd (xadd (xnum (xadd (xadd (xadd x0 (sl r)) (sl r)) 32) y) (if (r.tdiv 16).tmod 4 = 0 then 61 else 58)) (109 + (r.tdiv 64).tmod 5)) := by { unfold stx sx; rw [if_neg hb79] }
      have e267 : w6 267 = v 267 := hm6.1 267 (by omega) (by omega)
      have e7r : w6 267 0 = gn D := by { rw [e267]; exact r0 }
      refine e_step (pc' := 101) hK rfl rfl rfl ?_
      refine e_getR (ci := 4) (k := 4) (pc' := 104) hK rfl (by simp (disch := omega) only [mH_t64, mH_r1, mH_r3, mH_r4, mH_r5, mH_r6, mH_r8, mH_r9, mH_r10, mH_r11, mH_r12, mH_r14, mH_i0, mH_i2, mH_i7, mH_i13, mH_i15, mH_t71, mH_t, mH_lr, mH_l65, mH_l69, mH_l70, mH_l71, mH_l72, mH_l73, mH_l74, mH_l75, mH_c, gu_n, gu_s, e7r]) rfl rfl (by decide) (by decide) (by (try simp (disch := omega) only [mH_t64, mH_r1, mH_r3, mH_r4, mH_r5, mH_r6, mH_r8, mH_r9, mH_r10, mH_r11, mH_r12, mH_r14, mH_i0, mH_i2, mH_i7, mH_i13, mH_i15, mH_t71, mH_t, mH_lr, mH_l65, mH_l69, mH_l70, mH_l71, mH_l72, mH_l73, mH_l74, mH_l75, mH_c, gu_n, gu_s, e7r]); omega) rfl ?_
      try simp (disch := omega) only [mH_t64, mH_r1, mH_r3, mH_r4, mH_r5, mH_r6, mH_r8, mH_r9, mH_r10, mH_r11, mH_r12, mH_r14, mH_i0, mH_i2, mH_i7, mH_i13, mH_i15, mH_t71, mH_t, mH_lr, mH_l65, mH_l69, mH_l70, mH_l71, mH_l72, mH_l73, mH_l74, mH_l75, mH_c, gu_n, gu_s, e7r]
      refine e_step (pc' := 105) hK rfl rfl rfl ?_
      refine e_iald (pc' := 106) hK rfl (by simp (disch := omega) only [mH_t64, mH_r1, mH_r3, mH_r4, mH_r5, mH_r6, mH_r8, mH_r9, mH_r10, mH_r11, mH_r12, mH_r14, mH_i0, mH_i2, mH_i7, mH_i13, mH_i15, mH_t71, mH_t, mH_lr, mH_l65, mH_l69, mH_l70, mH_l71, mH_l72, mH_l73, mH_l74, mH_l75, mH_c, gu_n, gu_s, e7r]) (by omega) (by (try simp (disch := omega) only [mH_t64, mH_r1, mH_r3, mH_r4, mH_r5, mH_r6, mH_r8, mH_r9, mH_r10, mH_r11, mH_r12, mH_r14, mH_i0, mH_i2, mH_i7, mH_i13, mH_i15, mH_t71, mH_t, mH_lr, mH_l65, mH_l69, mH_l70, mH_l71, mH_l72, mH_l73, mH_l74, mH_l75, mH_c, gu_n, gu_s, e7r]); omega) rfl ?_
      try simp (disch := omega) only [mH_t64, mH_r1, mH_r3, mH_r4, mH_r5, mH_r6, mH_r8, mH_r9, mH_r10, mH_r11, mH_r12, mH_r14, mH_i0, mH_i2, mH_i7, mH_i13, mH_i15, mH_t71, mH_t, mH_lr, mH_l65, mH_l69, mH_l70, mH_l71, mH_l72, mH_l73, mH_l74, mH_l75, mH_c, gu_n, gu_s, e7r]
      refine e_cRS1 (z := 116) (pc' := 109) hK rfl rfl rfl (Nat.le_of_ble_eq_true rfl) (Nat.le_of_ble_eq_true rfl) (m_lineAt (gn D : Int)) (by decide) rfl ?_
      try simp (disch := omega) only [mH_t64, mH_r1, mH_r3, mH_r4, mH_r5, mH_r6, mH_r8, mH_r9, mH_r10, mH_r11, mH_r12, mH_r14, mH_i0, mH_i2, mH_i7, mH_i13, mH_i15, mH_t71, mH_t, mH_lr, mH_l65, mH_l69, mH_l70, mH_l71, mH_l72, mH_l73, mH_l74, mH_l75, mH_c, gu_n, gu_s, e7r]
      refine e_step (pc' := 110) hK rfl rfl rfl ?_
      try simp only [List.set_cons_zero, List.set_cons_succ]
      refine e_step (pc' := 111) hK rfl rfl rfl ?_
      refine e_getR (ci := 4) (k := 4) (pc' := 114) hK rfl (by simp (disch := omega) only [mH_t64, mH_r1, mH_r3, mH_r4, mH_r5, mH_r6, mH_r8, mH_r9, mH_r10, mH_r11, mH_r12, mH_r14, mH_i0, mH_i2, mH_i7, mH_i13, mH_i15, mH_t71, mH_t, mH_lr, mH_l65, mH_l69, mH_l70, mH_l71, mH_l72, mH_l73, mH_l74, mH_l75, mH_c, gu_n, gu_s, e7r]) rfl rfl (by decide) (by decide) (by (try simp (disch := omega) only [mH_t64, mH_r1, mH_r3, mH_r4, mH_r5, mH_r6, mH_r8, mH_r9, mH_r10, mH_r11, mH_r12, mH_r14, mH_i0, mH_i2, mH_i7, mH_i13, mH_i15, mH_t71, mH_t, mH_lr, mH_l65, mH_l69, mH_l70, mH_l71, mH_l72, mH_l73, mH_l74, mH_l75, mH_c, gu_n, gu_s, e7r]); omega) rfl ?_
      try simp (disch := omega) only [mH_t64, mH_r1, mH_r3, mH_r4, mH_r5, mH_r6, mH_r8, mH_r9, mH_r10, mH_r11, mH_r12, mH_r14, mH_i0, mH_i2, mH_i7, mH_i13, mH_i15, mH_t71, mH_t, mH_lr, mH_l65, mH_l69, mH_l70, mH_l71, mH_l72, mH_l73, mH_l74, mH_l75, mH_c, gu_n, gu_s, e7r]
      refine e_step (pc' := 115) hK rfl rfl rfl ?_
      refine e_step (pc' := 116) hK rfl rfl rfl ?_
      refine e_getI (ci := 4) (k := 15) (pc' := 119) hK rfl (by simp (disch := omega) only [mH_t64, mH_r1, mH_r3, mH_r4, mH_r5, mH_r6, mH_r8, mH_r9, mH_r10, mH_r11, mH_r12, mH_r14, mH_i0, mH_i2, mH_i7, mH_i13, mH_i15, mH_t71, mH_t, mH_lr, mH_l65, mH_l69, mH_l70, mH_l71, mH_l72, mH_l73, mH_l74, mH_l75, mH_c, gu_n, gu_s, e7r]) rfl rfl (by decide) (by decide) rfl ?_
      try simp (disch := omega) only [mH_t64, mH_r1, mH_r3, mH_r4, mH_r5, mH_r6, mH_r8, mH_r9, mH_r10, mH_r11, mH_r12, mH_r14, mH_i0, mH_i2, mH_i7, mH_i13, mH_i15, mH_t71, mH_t, mH_lr, mH_l65, mH_l69, mH_l70, mH_l71, mH_l72, mH_l73, mH_l74, mH_l75, mH_c, gu_n, gu_s, e7r]
      refine e_iast (pc' := 120) hK rfl (by simp (disch := omega) only [mH_t64, mH_r1, mH_r3, mH_r4, mH_r5, mH_r6, mH_r8, mH_r9, mH_r10, mH_r11, mH_r12, mH_r14, mH_i0, mH_i2, mH_i7, mH_i13, mH_i15, mH_t71, mH_t, mH_lr, mH_l65, mH_l69, mH_l70, mH_l71, mH_l72, mH_l73, mH_l74, mH_l75, mH_c, gu_n, gu_s, e7r]) (by omega) (by (try simp (disch := omega) only [mH_t64, mH_r1, mH_r3, mH_r4, mH_r5, mH_r6, mH_r8, mH_r9, mH_r10, mH_r11, mH_r12, mH_r14, mH_i0, mH_i2, mH_i7, mH_i13, mH_i15, mH_t71, mH_t, mH_lr, mH_l65, mH_l69, mH_l70, mH_l71, mH_l72, mH_l73, mH_l74, mH_l75, mH_c, gu_n, gu_s, e7r]); omega) rfl ?_
      simp (disch := omega) only [mW_0, mW_2, mW_7, mW_13, mW_15, mW_a, gu_s]
      refine e_step (pc' := 121) hK rfl rfl rfl ?_
      refine e_getR (ci := 4) (k := 4) (pc' := 124) hK rfl (by simp (disch := omega) only [mH_t64, mH_r1, mH_r3, mH_r4, mH_r5, mH_r6, mH_r8, mH_r9, mH_r10, mH_r11, mH_r12, mH_r14, mH_i0, mH_i2, mH_i7, mH_i13, mH_i15, mH_t71, mH_t, mH_lr, mH_l65, mH_l69, mH_l70, mH_l71, mH_l72, mH_l73, mH_l74, mH_l75, mH_c, gu_n, gu_s, e7r]) rfl rfl (by decide) (by decide) (by (try simp (disch := omega) only [mH_t64, mH_r1, mH_r3, mH_r4, mH_r5, mH_r6, mH_r8, mH_r9, mH_r10, mH_r11, mH_r12, mH_r14, mH_i0, mH_i2, mH_i7, mH_i13, mH_i15, mH_t71, mH_t, mH_lr, mH_l65, mH_l69, mH_l70, mH_l71, mH_l72, mH_l73, mH_l74, mH_l75, mH_c, gu_n, gu_s, e7r]); omega) rfl ?_
      try simp (disch := omega) only [mH_t64, mH_r1, mH_r3, mH_r4, mH_r5, mH_r6, mH_r8, mH_r9, mH_r10, mH_r11, mH_r12, mH_r14, mH_i0, mH_i2, mH_i7, mH_i13, mH_i15, mH_t71, mH_t, mH_lr, mH_l65, mH_l69, mH_l70, mH_l71, mH_l72, mH_l73, mH_l74, mH_l75, mH_c, gu_n, gu_s, e7r]
      refine e_step (pc' := 125) hK rfl rfl rfl ?_
      refine e_step (pc' := 126) hK rfl rfl rfl ?_
      refine e_step (pc' := 127) hK rfl rfl rfl ?_
      refine e_step (pc' := 130) hK rfl rfl rfl ?_
      refine e_iast (pc' := 131) hK rfl (by simp (disch := omega) only [mH_t64, mH_r1, mH_r3, mH_r4, mH_r5, mH_r6, mH_r8, mH_r9, mH_r10, mH_r11, mH_r12, mH_r14, mH_i0, mH_i2, mH_i7, mH_i13, mH_i15, mH_t71, mH_t, mH_lr, mH_l65, mH_l69, mH_l70, mH_l71, mH_l72, mH_l73, mH_l74, mH_l75, mH_c, gu_n, gu_s, e7r]) (by omega) (by (try simp (disch := omega) only [mH_t64, mH_r1, mH_r3, mH_r4, mH_r5, mH_r6, mH_r8, mH_r9, mH_r10, mH_r11, mH_r12, mH_r14, mH_i0, mH_i2, mH_i7, mH_i13, mH_i15, mH_t71, mH_t, mH_lr, mH_l65, mH_l69, mH_l70, mH_l71, mH_l72, mH_l73, mH_l74, mH_l75, mH_c, gu_n, gu_s, e7r]); omega) rfl ?_
      simp (disch := omega) only [mW_0, mW_2, mW_7, mW_13, mW_15, mW_a, gu_s]
      refine e_step (pc' := 132) hK rfl rfl rfl ?_
      refine e_step (pc' := 134) hK rfl rfl rfl ?_
      try simp only [List.set_cons_zero, List.set_cons_succ]
      refine (g_drawC (v0 := gu (gu w6 267 (mv_up (w6 267) (2 + 42 * (gn D : Int)) (w6 264 15))) 267 (mv_up (mv_up (w6 267) (2 + 42 * (gn D : Int)) (w6 264 15)) (2 + 42 * (gn D : Int) + 1) (-9999))) hz (xadd (xadd (xnum (xadd (xadd (xadd x0 (sl r)) (sl r)) 32) y) (if (r.tdiv 16).tmod 4 = 0 then 61 else 58)) (109 + (r.tdiv 64).tmod 5)) (by omega) _ _ (xadd (xadd (xnum (xadd (xadd (xadd x0 (sl r)) (sl r)) 32) y) (if (r.tdiv 16).tmod 4 = 0 then 61 else 58)) (109 + (r.tdiv 64).tmod 5)).1 0 _ ⟨by omega, ⟨?_, fun k k0 k1 => ?_⟩, fun b _ => rfl, ?_, fun q q0 q1 => by omega, fun q _ => rfl, ?_⟩).mono (fun r' c' h' hq => ?_)
      · rw [gu_n (by omega), gu_n (by omega)]; exact hA6.1
      · rw [gu_n (by omega), gu_n (by omega)]; exact hA6.2 k k0 k1
      · rw [gu_s, up_n (by omega), up_s]; exact hA6.1
      · rw [gu_n (by omega), gu_n (by omega)]; exact hA6.1
      · obtain ⟨q1, q2, w9, q3, q4, q5, q6⟩ := hq
        refine ⟨q1, q2, w9, q3, fun b n1 n2 n3 => ?_, fun k n1 => ?_, by rw [hst]; exact q5, by rw [hst]; exact hJ6.1, fun q hq => ?_⟩
        · rw [q4 b n2, gu_n n2, gu_n n2]; exact hm6.1 b n1 n3
        · rw [q4 264 (by omega), gu_n (by omega), gu_n (by omega)]; exact hm6.2 k n1
        · rw [q6 q hq, gu_s, up_n (by omega), up_n (by omega), e267]
    · replace hb79 := cq_ne.2.mp hb79
      refine e_step (pc' := 83) hK rfl rfl rfl ?_
      refine e_step (pc' := 85) hK rfl rfl rfl ?_
      refine e_cQV2 (z := 181) hK rfl rfl (by first | (simp (disch := omega) only [mH_t64, mH_r1, mH_r3, mH_r4, mH_r5, mH_r6, mH_r8, mH_r9, mH_r10, mH_r11, mH_r12, mH_r14, mH_i0, mH_i2, mH_i7, mH_i13, mH_i15, mH_t71, mH_t, mH_lr, mH_l65, mH_l69, mH_l70, mH_l71, mH_l72, mH_l73, mH_l74, mH_l75, mH_c, gu_n, gu_s]; rfl) | (show _ = 2; assumption) | (show _ = 1; assumption) | (show _ = 0; assumption) | (show _ = 3; assumption) | (show _ = 4; assumption)) rfl (Nat.le_of_ble_eq_true rfl) (Nat.le_of_ble_eq_true rfl) (m_laySign 32 _ hA6.1 (by omega) (by omega)) ?_
      rintro _ _ _ ⟨rfl, rfl, w7, rfl, o1, o2, o3, o4⟩
      refine ⟨by decide, ?_⟩
      rw [if_pos rfl]
      try dsimp only
      have hk7 : px_k 32 = 1 := by { unfold px_k; rw [if_neg (by omega), if_neg (by omega), if_pos (by omega)] }
      have hxe7 := xadd_e (c := 32) hJ6 (by omega) (by omega) (fun e => by omega)
      have hJ7 := xJ_ap (c := 32) hJ6 (by omega) (by omega) (fun e => by omega)
      rw [if_neg (show ¬ px_k 32 = 3 by omega)] at hJ7
      have hA7 := Ah_ap hA6 rfl o3 o4
      rw [← hxe7] at hA7 hJ7
      have hm7 := mah_t hm6 ⟨o1, o2⟩
      have hl7 : (xadd (xadd (xadd (xnum (xadd (xadd (xadd x0 (sl r)) (sl r)) 32) y) (if (r.tdiv 16).tmod 4 = 0 then 61 else 58)) (109 + (r.tdiv 64).tmod 5)) 32).1 = (xadd (xadd (xnum (xadd (xadd (xadd x0 (sl r)) (sl r)) 32) y) (if (r.tdiv 16).tmod 4 = 0 then 61 else 58)) (109 + (r.tdiv 64).tmod 5)).1 + 1 := by { rw [hxe7]; rfl }
      show mv_Ev _ _ 88 _ _ _ _ _
      refine e_step (pc' := 89) hK rfl rfl rfl ?_
      refine e_step (pc' := 90) hK rfl rfl rfl ?_
      refine e_step (pc' := 93) hK rfl rfl rfl ?_
      refine e_idiv (pc' := 94) hK rfl (by omega) (by omega) (by omega) rfl ?_
      refine e_step (pc' := 96) hK rfl rfl rfl ?_
      refine e_irem (pc' := 97) hK rfl (by omega) (by omega) (by omega) rfl ?_
      refine e_cQV2 (z := 182) hK rfl rfl (by first | (simp (disch := omega) only [mH_t64, mH_r1, mH_r3, mH_r4, mH_r5, mH_r6, mH_r8, mH_r9, mH_r10, mH_r11, mH_r12, mH_r14, mH_i0, mH_i2, mH_i7, mH_i13, mH_i15, mH_t71, mH_t, mH_lr, mH_l65, mH_l69, mH_l70, mH_l71, mH_l72, mH_l73, mH_l74, mH_l75, mH_c, gu_n, gu_s]; rfl) | (show _ = 2; assumption) | (show _ = 1; assumption) | (show _ = 0; assumption) | (show _ = 3; assumption) | (show _ = 4; assumption)) rfl (Nat.le_of_ble_eq_true rfl) (Nat.le_of_ble_eq_true rfl) (m_layDigits ((r.tdiv 512).tmod 50) (by omega) (by omega) (dgn ((r.tdiv 512).tmod 50)).toNat hE1 (by omega) _ hA7.1 (by omega) (by omega)) ?_
      rintro _ _ _ ⟨rfl, rfl, w8, rfl, o1, o2, o3, o4⟩
      refine ⟨by decide, ?_⟩
      rw [if_pos rfl]
      try dsimp only
      obtain ⟨hA8, hJ8, hl8⟩ := Ah_num (by omega) hE1 hJ7 (by omega) (by omega) hA7 rfl o3 o4
      have hm8 := mah_t hm7 ⟨o1, o2⟩
      show mv_Ev _ _ 100 _ _ _ _ _
      have hst : stx r y = (xnum (xadd (xadd (xadd (xnum (xadd (xadd (xadd x0 (sl r)) (sl r)) 32) y) (if (r.tdiv 16).tmod 4 = 0 then 61 else 58)) (109 + (r.tdiv 64).tmod 5)) 32) ((r.tdiv 512).tmod 50)) := by { unfold stx sx; rw [if_pos hb79] }
      have e267 : w8 267 = v 267 := hm8.1 267 (by omega) (by omega)
      have e7r : w8 267 0 = gn D := by { rw [e267]; exact r0 }
      refine e_step (pc' := 101) hK rfl rfl rfl ?_
      refine e_getR (ci := 4) (k := 4) (pc' := 104) hK rfl (by simp (disch := omega) only [mH_t64, mH_r1, mH_r3, mH_r4, mH_r5, mH_r6, mH_r8, mH_r9, mH_r10, mH_r11, mH_r12, mH_r14, mH_i0, mH_i2, mH_i7, mH_i13, mH_i15, mH_t71, mH_t, mH_lr, mH_l65, mH_l69, mH_l70, mH_l71, mH_l72, mH_l73, mH_l74, mH_l75, mH_c, gu_n, gu_s, e7r]) rfl rfl (by decide) (by decide) (by (try simp (disch := omega) only [mH_t64, mH_r1, mH_r3, mH_r4, mH_r5, mH_r6, mH_r8, mH_r9, mH_r10, mH_r11, mH_r12, mH_r14, mH_i0, mH_i2, mH_i7, mH_i13, mH_i15, mH_t71, mH_t, mH_lr, mH_l65, mH_l69, mH_l70, mH_l71, mH_l72, mH_l73, mH_l74, mH_l75, mH_c, gu_n, gu_s, e7r]); omega) rfl ?_
      try simp (disch := omega) only [mH_t64, mH_r1, mH_r3, mH_r4, mH_r5, mH_r6, mH_r8, mH_r9, mH_r10, mH_r11, mH_r12, mH_r14, mH_i0, mH_i2, mH_i7, mH_i13, mH_i15, mH_t71, mH_t, mH_lr, mH_l65, mH_l69, mH_l70, mH_l71, mH_l72, mH_l73, mH_l74, mH_l75, mH_c, gu_n, gu_s, e7r]
      refine e_step (pc' := 105) hK rfl rfl rfl ?_
      refine e_iald (pc' := 106) hK rfl (by simp (disch := omega) only [mH_t64, mH_r1, mH_r3, mH_r4, mH_r5, mH_r6, mH_r8, mH_r9, mH_r10, mH_r11, mH_r12, mH_r14, mH_i0, mH_i2, mH_i7, mH_i13, mH_i15, mH_t71, mH_t, mH_lr, mH_l65, mH_l69, mH_l70, mH_l71, mH_l72, mH_l73, mH_l74, mH_l75, mH_c, gu_n, gu_s, e7r]) (by omega) (by (try simp (disch := omega) only [mH_t64, mH_r1, mH_r3, mH_r4, mH_r5, mH_r6, mH_r8, mH_r9, mH_r10, mH_r11, mH_r12, mH_r14, mH_i0, mH_i2, mH_i7, mH_i13, mH_i15, mH_t71, mH_t, mH_lr, mH_l65, mH_l69, mH_l70, mH_l71, mH_l72, mH_l73, mH_l74, mH_l75, mH_c, gu_n, gu_s, e7r]); omega) rfl ?_
      try simp (disch := omega) only [mH_t64, mH_r1, mH_r3, mH_r4, mH_r5, mH_r6, mH_r8, mH_r9, mH_r10, mH_r11, mH_r12, mH_r14, mH_i0, mH_i2, mH_i7, mH_i13, mH_i15, mH_t71, mH_t, mH_lr, mH_l65, mH_l69, mH_l70, mH_l71, mH_l72, mH_l73, mH_l74, mH_l75, mH_c, gu_n, gu_s, e7r]
      refine e_cRS1 (z := 116) (pc' := 109) hK rfl rfl rfl (Nat.le_of_ble_eq_true rfl) (Nat.le_of_ble_eq_true rfl) (m_lineAt (gn D : Int)) (by decide) rfl ?_
      try simp (disch := omega) only [mH_t64, mH_r1, mH_r3, mH_r4, mH_r5, mH_r6, mH_r8, mH_r9, mH_r10, mH_r11, mH_r12, mH_r14, mH_i0, mH_i2, mH_i7, mH_i13, mH_i15, mH_t71, mH_t, mH_lr, mH_l65, mH_l69, mH_l70, mH_l71, mH_l72, mH_l73, mH_l74, mH_l75, mH_c, gu_n, gu_s, e7r]
      refine e_step (pc' := 110) hK rfl rfl rfl ?_
      try simp only [List.set_cons_zero, List.set_cons_succ]
      refine e_step (pc' := 111) hK rfl rfl rfl ?_
      refine e_getR (ci := 4) (k := 4) (pc' := 114) hK rfl (by simp (disch := omega) only [mH_t64, mH_r1, mH_r3, mH_r4, mH_r5, mH_r6, mH_r8, mH_r9, mH_r10, mH_r11, mH_r12, mH_r14, mH_i0, mH_i2, mH_i7, mH_i13, mH_i15, mH_t71, mH_t, mH_lr, mH_l65, mH_l69, mH_l70, mH_l71, mH_l72, mH_l73, mH_l74, mH_l75, mH_c, gu_n, gu_s, e7r]) rfl rfl (by decide) (by decide) (by (try simp (disch := omega) only [mH_t64, mH_r1, mH_r3, mH_r4, mH_r5, mH_r6, mH_r8, mH_r9, mH_r10, mH_r11, mH_r12, mH_r14, mH_i0, mH_i2, mH_i7, mH_i13, mH_i15, mH_t71, mH_t, mH_lr, mH_l65, mH_l69, mH_l70, mH_l71, mH_l72, mH_l73, mH_l74, mH_l75, mH_c, gu_n, gu_s, e7r]); omega) rfl ?_
      try simp (disch := omega) only [mH_t64, mH_r1, mH_r3, mH_r4, mH_r5, mH_r6, mH_r8, mH_r9, mH_r10, mH_r11, mH_r12, mH_r14, mH_i0, mH_i2, mH_i7, mH_i13, mH_i15, mH_t71, mH_t, mH_lr, mH_l65, mH_l69, mH_l70, mH_l71, mH_l72, mH_l73, mH_l74, mH_l75, mH_c, gu_n, gu_s, e7r]
      refine e_step (pc' := 115) hK rfl rfl rfl ?_
      refine e_step (pc' := 116) hK rfl rfl rfl ?_
      refine e_getI (ci := 4) (k := 15) (pc' := 119) hK rfl (by simp (disch := omega) only [mH_t64, mH_r1, mH_r3, mH_r4, mH_r5, mH_r6, mH_r8, mH_r9, mH_r10, mH_r11, mH_r12, mH_r14, mH_i0, mH_i2, mH_i7, mH_i13, mH_i15, mH_t71, mH_t, mH_lr, mH_l65, mH_l69, mH_l70, mH_l71, mH_l72, mH_l73, mH_l74, mH_l75, mH_c, gu_n, gu_s, e7r]) rfl rfl (by decide) (by decide) rfl ?_
      try simp (disch := omega) only [mH_t64, mH_r1, mH_r3, mH_r4, mH_r5, mH_r6, mH_r8, mH_r9, mH_r10, mH_r11, mH_r12, mH_r14, mH_i0, mH_i2, mH_i7, mH_i13, mH_i15, mH_t71, mH_t, mH_lr, mH_l65, mH_l69, mH_l70, mH_l71, mH_l72, mH_l73, mH_l74, mH_l75, mH_c, gu_n, gu_s, e7r]
      refine e_iast (pc' := 120) hK rfl (by simp (disch := omega) only [mH_t64, mH_r1, mH_r3, mH_r4, mH_r5, mH_r6, mH_r8, mH_r9, mH_r10, mH_r11, mH_r12, mH_r14, mH_i0, mH_i2, mH_i7, mH_i13, mH_i15, mH_t71, mH_t, mH_lr, mH_l65, mH_l69, mH_l70, mH_l71, mH_l72, mH_l73, mH_l74, mH_l75, mH_c, gu_n, gu_s, e7r]) (by omega) (by (try simp (disch := omega) only [mH_t64, mH_r1, mH_r3, mH_r4, mH_r5, mH_r6, mH_r8, mH_r9, mH_r10, mH_r11, mH_r12, mH_r14, mH_i0, mH_i2, mH_i7, mH_i13, mH_i15, mH_t71, mH_t, mH_lr, mH_l65, mH_l69, mH_l70, mH_l71, mH_l72, mH_l73, mH_l74, mH_l75, mH_c, gu_n, gu_s, e7r]); omega) rfl ?_
      simp (disch := omega) only [mW_0, mW_2, mW_7, mW_13, mW_15, mW_a, gu_s]
      refine e_step (pc' := 121) hK rfl rfl rfl ?_
      refine e_getR (ci := 4) (k := 4) (pc' := 124) hK rfl (by simp (disch := omega) only [mH_t64, mH_r1, mH_r3, mH_r4, mH_r5, mH_r6, mH_r8, mH_r9, mH_r10, mH_r11, mH_r12, mH_r14, mH_i0, mH_i2, mH_i7, mH_i13, mH_i15, mH_t71, mH_t, mH_lr, mH_l65, mH_l69, mH_l70, mH_l71, mH_l72, mH_l73, mH_l74, mH_l75, mH_c, gu_n, gu_s, e7r]) rfl rfl (by decide) (by decide) (by (try simp (disch := omega) only [mH_t64, mH_r1, mH_r3, mH_r4, mH_r5, mH_r6, mH_r8, mH_r9, mH_r10, mH_r11, mH_r12, mH_r14, mH_i0, mH_i2, mH_i7, mH_i13, mH_i15, mH_t71, mH_t, mH_lr, mH_l65, mH_l69, mH_l70, mH_l71, mH_l72, mH_l73, mH_l74, mH_l75, mH_c, gu_n, gu_s, e7r]); omega) rfl ?_
      try simp (disch := omega) only [mH_t64, mH_r1, mH_r3, mH_r4, mH_r5, mH_r6, mH_r8, mH_r9, mH_r10, mH_r11, mH_r12, mH_r14, mH_i0, mH_i2, mH_i7, mH_i13, mH_i15, mH_t71, mH_t, mH_lr, mH_l65, mH_l69, mH_l70, mH_l71, mH_l72, mH_l73, mH_l74, mH_l75, mH_c, gu_n, gu_s, e7r]
      refine e_step (pc' := 125) hK rfl rfl rfl ?_
      refine e_step (pc' := 126) hK rfl rfl rfl ?_
      refine e_step (pc' := 127) hK rfl rfl rfl ?_
      refine e_step (pc' := 130) hK rfl rfl rfl ?_
      refine e_iast (pc' := 131) hK rfl (by simp (disch := omega) only [mH_t64, mH_r1, mH_r3, mH_r4, mH_r5, mH_r6, mH_r8, mH_r9, mH_r10, mH_r11, mH_r12, mH_r14, mH_i0, mH_i2, mH_i7, mH_i13, mH_i15, mH_t71, mH_t, mH_lr, mH_l65, mH_l69, mH_l70, mH_l71, mH_l72, mH_l73, mH_l74, mH_l75, mH_c, gu_n, gu_s, e7r]) (by omega) (by (try simp (disch := omega) only [mH_t64, mH_r1, mH_r3, mH_r4, mH_r5, mH_r6, mH_r8, mH_r9, mH_r10, mH_r11, mH_r12, mH_r14, mH_i0, mH_i2, mH_i7, mH_i13, mH_i15, mH_t71, mH_t, mH_lr, mH_l65, mH_l69, mH_l70, mH_l71, mH_l72, mH_l73, mH_l74, mH_l75, mH_c, gu_n, gu_s, e7r]); omega) rfl ?_
      simp (disch := omega) only [mW_0, mW_2, mW_7, mW_13, mW_15, mW_a, gu_s]
      refine e_step (pc' := 132) hK rfl rfl rfl ?_
      refine e_step (pc' := 134) hK rfl rfl rfl ?_
      try simp only [List.set_cons_zero, List.set_cons_succ]
      refine (g_drawC (v0 := gu (gu w8 267 (mv_up (w8 267) (2 + 42 * (gn D : Int)) (w8 264 15))) 267 (mv_up (mv_up (w8 267) (2 + 42 * (gn D : Int)) (w8 264 15)) (2 + 42 * (gn D : Int) + 1) (-9999))) hz (xnum (xadd (xadd (xadd (xnum (xadd (xadd (xadd x0 (sl r)) (sl r)) 32) y) (if (r.tdiv 16).tmod 4 = 0 then 61 else 58)) (109 + (r.tdiv 64).tmod 5)) 32) ((r.tdiv 512).tmod 50)) (by omega) _ _ (xnum (xadd (xadd (xadd (xnum (xadd (xadd (xadd x0 (sl r)) (sl r)) 32) y) (if (r.tdiv 16).tmod 4 = 0 then 61 else 58)) (109 + (r.tdiv 64).tmod 5)) 32) ((r.tdiv 512).tmod 50)).1 0 _ ⟨by omega, ⟨?_, fun k k0 k1 => ?_⟩, fun b _ => rfl, ?_, fun q q0 q1 => by omega, fun q _ => rfl, ?_⟩).mono (fun r' c' h' hq => ?_)
      · rw [gu_n (by omega), gu_n (by omega)]; exact hA8.1
      · rw [gu_n (by omega), gu_n (by omega)]; exact hA8.2 k k0 k1
      · rw [gu_s, up_n (by omega), up_s]; exact hA8.1
      · rw [gu_n (by omega), gu_n (by omega)]; exact hA8.1
      · obtain ⟨q1, q2, w9, q3, q4, q5, q6⟩ := hq
        refine ⟨q1, q2, w9, q3, fun b n1 n2 n3 => ?_, fun k n1 => ?_, by rw [hst]; exact q5, by rw [hst]; exact hJ8.1, fun q hq => ?_⟩
        · rw [q4 b n2, gu_n n2, gu_n n2]; exact hm8.1 b n1 n3
        · rw [q4 264 (by omega), gu_n (by omega), gu_n (by omega)]; exact hm8.2 k n1
        · rw [q6 q hq, gu_s, up_n (by omega), up_n (by omega), e267]
end GG
