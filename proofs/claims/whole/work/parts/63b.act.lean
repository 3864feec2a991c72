/-! the face: new objects, further actions (written by wip/whole/m63.py) -/
section FC
variable {sc : Int × (Int → Int)} {c : mv_C} {h : mv_H}
set_option maxRecDepth 10000 in
theorem c_objInit (l : Int) : mv_Cl sc q_Obj_init [(2, l)] c h (fun r c' h' => r = (3, 0) ∧ c' = c ∧ h' = h) := by
  show mv_Ev sc 3 0 [(2, l)] [] c h _
  have hK : (mv_m 3).1 = kc_Obj_init := rfl
  refine e_ret hK rfl rfl rfl ?_
  exact ⟨rfl, rfl, rfl⟩
set_option maxRecDepth 10000 in
theorem c_lineInit (n o s : Nat) (hn : h (n : Int) = (1, 7, mv_df 1)) : mv_Cl sc q_Line_init [(2, (n : Int))] (n + 1, o, s) h (fun r c' h' => r = (3, 0) ∧ c' = (n + 6, o + 5, s + 88) ∧ (∀ f, LnA h' n 0 f) ∧ ∀ b : Int, (b < n ∨ (n : Int) + 5 < b) → h' b = h b) := by
  show mv_Ev sc 4 0 [(2, (n : Int))] [] (n + 1, o, s) h _
  have hK : (mv_m 4).1 = kc_Line_init := rfl
  refine e_step (pc' := 1) hK rfl rfl rfl ?_
  refine e_cQI1 (z := 3) hK rfl rfl rfl (Nat.le_of_ble_eq_true rfl) (Nat.le_of_ble_eq_true rfl) (c_objInit _) ?_
  rintro _ _ _ ⟨rfl, rfl, rfl⟩
  refine ⟨by decide, ?_⟩
  rw [if_pos rfl]
  show mv_Ev _ _ 4 _ _ _ _ _
  refine e_step (pc' := 5) hK rfl rfl rfl ?_
  refine e_step (pc' := 7) hK rfl rfl rfl ?_
  refine e_newarr (pc' := 9) hK rfl (by omega) (by omega) rfl (by decide) rfl ?_
  refine e_put (ci := 1) (k := 0) (pc' := 12) hK rfl (by simp (disch := omega) only [hn, uo_e, uo_n, up_s, up_n]) rfl rfl (by decide) rfl rfl ?_
  refine e_step (pc' := 13) hK rfl rfl rfl ?_
  refine e_step (pc' := 15) hK rfl rfl rfl ?_
  refine e_newarr (pc' := 17) hK rfl (by omega) (by omega) rfl (by decide) rfl ?_
  refine e_put (ci := 1) (k := 1) (pc' := 20) hK rfl (by simp (disch := omega) only [hn, uo_e, uo_n, up_s, up_n]) rfl rfl (by decide) rfl rfl ?_
  refine e_step (pc' := 21) hK rfl rfl rfl ?_
  refine e_step (pc' := 23) hK rfl rfl rfl ?_
  refine e_newarr (pc' := 25) hK rfl (by omega) (by omega) rfl (by decide) rfl ?_
  refine e_put (ci := 1) (k := 2) (pc' := 28) hK rfl (by simp (disch := omega) only [hn, uo_e, uo_n, up_s, up_n]) rfl rfl (by decide) rfl rfl ?_
  refine e_step (pc' := 29) hK rfl rfl rfl ?_
  refine e_step (pc' := 31) hK rfl rfl rfl ?_
  refine e_newarr (pc' := 33) hK rfl (by omega) (by omega) rfl (by decide) rfl ?_
  refine e_put (ci := 1) (k := 3) (pc' := 36) hK rfl (by simp (disch := omega) only [hn, uo_e, uo_n, up_s, up_n]) rfl rfl (by decide) rfl rfl ?_
  refine e_step (pc' := 37) hK rfl rfl rfl ?_
  refine e_step (pc' := 39) hK rfl rfl rfl ?_
  refine e_newarr (pc' := 41) hK rfl (by omega) (by omega) rfl (by decide) rfl ?_
  refine e_put (ci := 1) (k := 4) (pc' := 44) hK rfl (by simp (disch := omega) only [hn, uo_e, uo_n, up_s, up_n]) rfl rfl (by decide) rfl rfl ?_
  refine e_ret hK rfl rfl rfl ?_
  refine ⟨rfl, rfl, fun f => ⟨⟨by omega, ?_, ?_, ?_, ?_, ?_, ?_, ⟨?_, ?_⟩, ⟨?_, ?_⟩, ⟨?_, ?_⟩, ⟨?_, ?_⟩, ⟨?_, ?_⟩⟩, ?_, ?_, fun i hi => absurd hi (Nat.not_lt_zero _), fun k k0 k1 => ?_, fun q q0 q1 => ?_⟩, fun b hb => ?_⟩
  all_goals (try (simp (disch := omega) only [uo_e, uo_n, up_s, up_n, hn]; first | done | rfl | omega))
  have q1 : q < 0 := q1
  omega
theorem LtA.back {m : Nat} {W : wt} {h2 : mv_H} (hL : LtA m h W) (hH2 : HsA h2 (wn W - 1) (wg W)) (hA2 : StA h2 165 (wg W ((wn W : Int) - 1))) (hf : ∀ b : Int, (b < 165 ∨ (169 < b ∧ b ≠ 180)) → h2 b = h b) (hn : 0 < wn W) : LtA m h2 (wN W, wF W, wg W ((wn W : Int) - 1), wn W - 1, wg W, wk W, wS W) := by
  obtain ⟨⟨a1, a2, a3, a4, a5, a6, a7, a8, a9, a10, a11⟩, hs⟩ := hL
  refine ⟨⟨a1.kq (fun b hb => hf b (by omega)), a2.kq (fun b hb => hf b (by omega)), hA2, hH2, a5.kq (fun b hb => hf b (by omega)), a6.kq (fun b hb => hf b (by omega)), fun s hs => ⟨?_, fun e => ((a7 s hs).2 e).kq (a11 s hs e) (fun b hb => hf b (by omega))⟩, a8, a10 _ (by omega) (by omega), fun j j0 (j1 : j < ((wn W - 1 : Nat) : Int)) => a10 j j0 (by omega), a11⟩, hs.kq (fun b hb => hf b (by omega))⟩
  rw [hf 263 (by omega)]; exact (a7 s hs).1
theorem LtA.rst {m : Nat} {W : wt} {h1 h2 : mv_H} {B : lg} (hL : LtA m h W) (hr : gR m B) (hA1 : StA h1 165 B) (hf1 : ∀ b : Int, (b < 165 ∨ 165 + 4 < b) → h1 b = h b) (hH2 : HsA h2 0 (wg W)) (hf2 : ∀ b : Int, b ≠ 180 → h2 b = h1 b) : LtA m h2 (wN W, wF W, B, 0, wg W, wk W, wS W) := by
  obtain ⟨⟨a1, a2, a3, a4, a5, a6, a7, a8, a9, a10, a11⟩, hs⟩ := hL
  have hf : ∀ b : Int, (b < 165 ∨ (169 < b ∧ b ≠ 180)) → h2 b = h b := fun b hb => (hf2 b (by omega)).trans (hf1 b (by omega))
  refine ⟨⟨a1.kq (fun b hb => hf b (by omega)), a2.kq (fun b hb => hf b (by omega)), hA1.kq hr (fun b hb => hf2 b (by omega)), hH2, a5.kq (fun b hb => hf b (by omega)), a6.kq (fun b hb => hf b (by omega)), fun s hs => ⟨?_, fun e => ((a7 s hs).2 e).kq (a11 s hs e) (fun b hb => hf b (by omega))⟩, a8, hr, fun j j0 (j1 : j < ((0 : Nat) : Int)) => by omega, a11⟩, hs.kq (fun b hb => hf b (by omega))⟩
  rw [hf 263 (by omega)]; exact (a7 s hs).1
theorem LtA.sav {m : Nat} {W : wt} {h2 h3 : mv_H} {s : Int} (hL : LtA m h W) (hs01 : s = 0 ∨ s = 1) (hA2 : StA h2 (253 + 5 * s) (wA W)) (hf2 : ∀ b : Int, (b < 253 + 5 * s ∨ 253 + 5 * s + 4 < b) → h2 b = h b) (hf3 : ∀ b : Int, b ≠ 263 → h3 b = h2 b) (q1 : (h3 263).1 = (h2 263).1) (q2 : (h3 263).2.1 = (h2 263).2.1) (q3 : (h3 263).2.2 = mv_up (h2 263).2.2 s 1) : LtA m h3 (wN W, wF W, wA W, wn W, wg W, gu (wk W) s true, gu (wS W) s (wA W)) := by
  obtain ⟨⟨a1, a2, a3, a4, a5, a6, a7, a8, a9, a10, a11⟩, hs⟩ := hL
  have hf : ∀ b : Int, (b < 253 + 5 * s ∨ 253 + 5 * s + 4 < b) → b ≠ 263 → h3 b = h b := fun b hb hn => (hf3 b hn).trans (hf2 b hb)
  have e263 := hf2 263 (by omega)
  have hA3 : StA h3 (253 + 5 * s) (wA W) := hA2.kq a9 (fun b hb => hf3 b (by omega))
  have hoth : ∀ k : Int, (k = 0 ∨ k = 1) → k ≠ s → ∀ b : Int, (2 ≤ b ∧ b ≤ 7) ∨ (277 ≤ b ∧ b < m) ∨ (253 + 5 * k ≤ b ∧ b ≤ 253 + 5 * k + 4) → h3 b = h b := fun k hk hn b hb => hf b (by omega) (by omega)
  have hW : ∀ k : Int, (k = 0 ∨ k = 1) → StW h3 (253 + 5 * k) := fun k hk => by
    by_cases e : k = s
    · rw [e]; exact hA3.1
    · have h9 : StW h (253 + 5 * k) := by rcases hk with rfl | rfl; exact a5; exact a6
      exact h9.kq (fun b hb => hoth k hk e b (by omega))
  refine ⟨⟨?_, a2.kq (fun b hb => hf b (by omega) (by omega)), a3.kq a9 (fun b hb => hf b (by omega) (by omega)), a4.kq a10 (fun b hb => hf b (by omega) (by omega)), hW 0 (by omega), hW 1 (by omega), fun k hk => ?_, a8, a9, a10, fun k hk => ?_⟩, hs.kq (fun b hb => hf b (by omega) (by omega))⟩
  · unfold LtP at *
    rw [hf 0 (by omega) (by omega), hf 14 (by omega) (by omega), hf 252 (by omega) (by omega), q1, q2, e263]; exact a1
  · show (h3 263).2.2 k = mv_bo (gu (wk W) s true k) ∧ (gu (wk W) s true k = true → StA h3 (253 + 5 * k) (gu (wS W) s (wA W) k))
    rw [q3]
    by_cases e : k = s
    · rw [e, up_s, gu_s, gu_s]; exact ⟨rfl, fun _ => hA3⟩
    · rw [up_n e, gu_n e, gu_n e, e263]
      exact ⟨(a7 k hk).1, fun e9 => ((a7 k hk).2 e9).kq (a11 k hk e9) (hoth k hk e)⟩
  · show gu (wk W) s true k = true → gR m (gu (wS W) s (wA W) k)
    by_cases e : k = s
    · rw [e]; intro _; rw [gu_s]; exact a9
    · rw [gu_n e, gu_n e]; exact a11 k hk
set_option maxRecDepth 10000 in
theorem f_forget {m : Nat} {W : wt} (hL : LtA m h W) : mv_Cl sc q_LT_forget [(2, 0)] c h (fun r c' h' => r = clr 1 9 (sp_forget W).1 (sp_forget W).2.1 ∧ c' = cck (sp_forget W).1 c ∧ LtA m h' (sp_forget W).2.2 ∧ (∀ b : Int, 264 ≤ b → b ≤ 276 → h' b = h b) ∧ mv_i (sp_forget W).2.1) := by
  have hL0 := hL
  obtain ⟨⟨⟨t00, p0, p2, p3, p4, p5, p6, p7, p8, p9, t14, l14, g14, t252, l252, g252a, g252b, t263, l263⟩, hTx, hA, hH, hS0, hS1, hSv, hm, hgR, hgRn, hgRs⟩, hsc⟩ := hL
  have hA0 := hA
  obtain ⟨⟨s1, s2, a0, -, -, -, -, -, -, -, -, -, -⟩, hB, an, aT, -⟩ := hA
  have bn := hB.1
  have bT := hB.2.1
  have g180 := hH.1.1
  have g180n := hH.2.2.1
  have tr170 := hsc.2.2.1.2.2.1
  have hn14 := hH.2.1
  show mv_Ev sc 65 0 [(2, 0)] [] c h _
  have hK : (mv_m 65).1 = kc_LT_forget := rfl
  refine e_step (pc' := 1) hK rfl rfl rfl ?_
  refine e_getR (ci := 0) (k := 5) (pc' := 4) hK rfl (by simp (disch := omega) only [t00, p0, p2, p3, p4, p5, p6, p7, p8, p9, a0, an, aT, g180, g180n, tr170]) rfl rfl (by decide) (by decide) (by (try simp (disch := omega) only [t00, p0, p2, p3, p4, p5, p6, p7, p8, p9, a0, an, aT, g180, g180n, tr170]); first | omega | exact bo_i _) rfl ?_
  try simp (disch := omega) only [t00, p0, p2, p3, p4, p5, p6, p7, p8, p9, a0, an, aT, g180, g180n, tr170]
  refine e_step (pc' := 5) hK rfl rfl rfl ?_
  refine e_getR (ci := 0) (k := 4) (pc' := 8) hK rfl (by simp (disch := omega) only [t00, p0, p2, p3, p4, p5, p6, p7, p8, p9, a0, an, aT, g180, g180n, tr170]) rfl rfl (by decide) (by decide) (by (try simp (disch := omega) only [t00, p0, p2, p3, p4, p5, p6, p7, p8, p9, a0, an, aT, g180, g180n, tr170]); first | omega | exact bo_i _) rfl ?_
  try simp (disch := omega) only [t00, p0, p2, p3, p4, p5, p6, p7, p8, p9, a0, an, aT, g180, g180n, tr170]
  refine e_cQV2 (z := 33) hK rfl rfl (by first | (simp (disch := omega) only [t00, p0, p2, p3, p4, p5, p6, p7, p8, p9, a0, an, aT, g180, g180n, tr170]; rfl) | (show _ = 2; assumption) | (show _ = 1; assumption) | (show _ = 0; assumption) | (show _ = 3; assumption) | (show _ = 4; assumption)) rfl (Nat.le_of_ble_eq_true rfl) (Nat.le_of_ble_eq_true rfl) (c_takeW hsc.2.2.1 hA0 (by omega)) ?_
  rintro _ _ g0 ⟨rfl, rfl, hs0, hf0⟩
  refine ⟨by show (0 : Nat) ≠ 4; decide, ?_⟩
  rw [if_neg (by show ¬ (0 : Nat) = 3; decide)]
  try dsimp only
  have hL1 := hL0.tr hs0.1 hf0
  have u0 := hf0 0 (by omega)
  have u180 : (g0 180).1 = 3 := by { rw [hf0 180 (by omega)]; exact g180 }
  have u165 : (g0 165).1 = 2 := by { rw [hf0 165 (by omega)]; exact a0 }
  show mv_Ev _ _ 11 _ _ _ _ _
  refine e_if (t := 24) (pc' := 14) hK rfl (by first | omega | exact bo_i _) (by decide) rfl (fun hb11 => ?_) (fun hb11 => ?_)
  · replace hb11 := cq_ne.1.mp hb11
    try simp only [bo_0, Bool.not_eq_false] at hb11
    refine e_step (pc' := 25) hK rfl rfl rfl ?_
    refine e_getR (ci := 0) (k := 7) (pc' := 28) hK rfl (by simp (disch := omega) only [t00, p0, p2, p3, p4, p5, p6, p7, p8, p9, a0, an, aT, g180, g180n, tr170, u0, u180, u165]) rfl rfl (by decide) (by decide) (by (try simp (disch := omega) only [t00, p0, p2, p3, p4, p5, p6, p7, p8, p9, a0, an, aT, g180, g180n, tr170, u0, u180, u165]); first | omega | exact bo_i _) rfl ?_
    try simp (disch := omega) only [t00, p0, p2, p3, p4, p5, p6, p7, p8, p9, a0, an, aT, g180, g180n, tr170, u0, u180, u165]
    refine e_step (pc' := 29) hK rfl rfl rfl ?_
    refine e_getR (ci := 0) (k := 4) (pc' := 32) hK rfl (by simp (disch := omega) only [t00, p0, p2, p3, p4, p5, p6, p7, p8, p9, a0, an, aT, g180, g180n, tr170, u0, u180, u165]) rfl rfl (by decide) (by decide) (by (try simp (disch := omega) only [t00, p0, p2, p3, p4, p5, p6, p7, p8, p9, a0, an, aT, g180, g180n, tr170, u0, u180, u165]); first | omega | exact bo_i _) rfl ?_
    try simp (disch := omega) only [t00, p0, p2, p3, p4, p5, p6, p7, p8, p9, a0, an, aT, g180, g180n, tr170, u0, u180, u165]
    refine e_cQV2 (z := 35) hK rfl rfl (by first | (simp (disch := omega) only [t00, p0, p2, p3, p4, p5, p6, p7, p8, p9, a0, an, aT, g180, g180n, tr170, u0, u180, u165]; rfl) | (show _ = 2; assumption) | (show _ = 1; assumption) | (show _ = 0; assumption) | (show _ = 3; assumption) | (show _ = 4; assumption)) rfl (Nat.le_of_ble_eq_true rfl) (Nat.le_of_ble_eq_true rfl) (c_remember hL1.1.2.2.2.1 hL1.1.2.2.1) ?_
    rintro _ _ h1 ⟨rfl, rfl, hH1, hf1⟩
    refine ⟨by decide, ?_⟩
    rw [if_pos rfl]
    have hA1 := hL1.act' hf1
    have o0 := hf1 0 (by omega)
    have o165 : (h1 165).1 = 2 := by { rw [hf1 165 (by omega)]; exact u165 }
    show mv_Ev _ _ 35 _ _ _ _ _
    refine e_step (pc' := 36) hK rfl rfl rfl ?_
    refine e_getR (ci := 0) (k := 4) (pc' := 39) hK rfl (by simp (disch := omega) only [t00, p0, p2, p3, p4, p5, p6, p7, p8, p9, a0, an, aT, g180, g180n, tr170, u0, u180, u165, o0, o165]) rfl rfl (by decide) (by decide) (by (try simp (disch := omega) only [t00, p0, p2, p3, p4, p5, p6, p7, p8, p9, a0, an, aT, g180, g180n, tr170, u0, u180, u165, o0, o165]); first | omega | exact bo_i _) rfl ?_
    try simp (disch := omega) only [t00, p0, p2, p3, p4, p5, p6, p7, p8, p9, a0, an, aT, g180, g180n, tr170, u0, u180, u165, o0, o165]
    refine e_step (pc' := 40) hK rfl rfl rfl ?_
    refine e_getR (ci := 0) (k := 5) (pc' := 43) hK rfl (by simp (disch := omega) only [t00, p0, p2, p3, p4, p5, p6, p7, p8, p9, a0, an, aT, g180, g180n, tr170, u0, u180, u165, o0, o165]) rfl rfl (by decide) (by decide) (by (try simp (disch := omega) only [t00, p0, p2, p3, p4, p5, p6, p7, p8, p9, a0, an, aT, g180, g180n, tr170, u0, u180, u165, o0, o165]); first | omega | exact bo_i _) rfl ?_
    try simp (disch := omega) only [t00, p0, p2, p3, p4, p5, p6, p7, p8, p9, a0, an, aT, g180, g180n, tr170, u0, u180, u165, o0, o165]
    refine e_cQV2 (z := 16) hK rfl rfl (by first | (simp (disch := omega) only [t00, p0, p2, p3, p4, p5, p6, p7, p8, p9, a0, an, aT, g180, g180n, tr170, u0, u180, u165, o0, o165]; rfl) | (show _ = 2; assumption) | (show _ = 1; assumption) | (show _ = 0; assumption) | (show _ = 3; assumption) | (show _ = 4; assumption)) rfl (Nat.le_of_ble_eq_true rfl) (Nat.le_of_ble_eq_true rfl) (c_copyFrom hA1 (hs0.kp (fun b hb => hf1 b (by omega))) (by omega)) ?_
    rintro _ _ h2 ⟨rfl, rfl, hs2, hf2⟩
    refine ⟨by decide, ?_⟩
    rw [if_pos rfl]
    have oo0 : h2 0 = h1 0 := hf2 0 (by omega)
    have n2 := hs2.2.2.1
    have T2 := hs2.2.2.2.1
    have tg2 := hs2.1.2.2.1
    show mv_Ev _ _ 46 _ _ _ _ _
    refine e_step (pc' := 47) hK rfl rfl rfl ?_
    refine e_getR (ci := 0) (k := 4) (pc' := 50) hK rfl (by simp (disch := omega) only [t00, p0, p2, p3, p4, p5, p6, p7, p8, p9, a0, an, aT, g180, g180n, tr170, u0, u180, u165, o0, o165, oo0, o0, n2, T2, tg2]) rfl rfl (by decide) (by decide) (by (try simp (disch := omega) only [t00, p0, p2, p3, p4, p5, p6, p7, p8, p9, a0, an, aT, g180, g180n, tr170, u0, u180, u165, o0, o165, oo0, o0, n2, T2, tg2]); first | omega | exact bo_i _) rfl ?_
    try simp (disch := omega) only [t00, p0, p2, p3, p4, p5, p6, p7, p8, p9, a0, an, aT, g180, g180n, tr170, u0, u180, u165, o0, o165, oo0, o0, n2, T2, tg2]
    refine e_getI (ci := 2) (k := 6) (pc' := 53) hK rfl (by simp (disch := omega) only [t00, p0, p2, p3, p4, p5, p6, p7, p8, p9, a0, an, aT, g180, g180n, tr170, u0, u180, u165, o0, o165, oo0, o0, n2, T2, tg2]) rfl rfl (by decide) (by decide) rfl ?_
    try simp (disch := omega) only [t00, p0, p2, p3, p4, p5, p6, p7, p8, p9, a0, an, aT, g180, g180n, tr170, u0, u180, u165, o0, o165, oo0, o0, n2, T2, tg2]
    refine e_ret hK rfl rfl rfl ?_
    have e9 : sp_forget W = (0, ((gT (gtk (wA W) (gn (wA W))).2 : Nat) : Int), w_R W (gtk (wA W) (gn (wA W))).2) := by { unfold sp_forget; rw [if_pos hb11] }
    rw [e9]
    refine ⟨rfl, rfl, hL1.act hH1 hf1 hs2 hf2 (gR_gtk hgR _), fun b b0 b1 => (hf2 b (by omega)).trans ((hf1 b (by omega)).trans (hf0 b (by omega))), ?_⟩
    have := hs2.2.1.2.1
    dsimp only; omega
  · replace hb11 := cq_ne.2.mp hb11
    try simp only [bo_0, Bool.not_eq_false] at hb11
    refine e_thr (E := 1) hK rfl rfl rfl rfl ?_
    have e9 : sp_forget W = (1, 0, W) := by { unfold sp_forget; rw [if_neg (by rw [hb11]; decide)] }
    rw [e9]
    exact ⟨rfl, rfl, hL1, fun b b0 b1 => hf0 b (by omega), by dsimp only; omega⟩
set_option maxRecDepth 10000 in
theorem f_undo {m : Nat} {W : wt} (hL : LtA m h W) : mv_Cl sc q_LT_undo [(2, 0)] c h (fun r c' h' => r = clr 1 9 (sp_undo W).1 (sp_undo W).2.1 ∧ c' = cck (sp_undo W).1 c ∧ LtA m h' (sp_undo W).2.2 ∧ (∀ b : Int, 264 ≤ b → b ≤ 276 → h' b = h b) ∧ mv_i (sp_undo W).2.1) := by
  have hL0 := hL
  obtain ⟨⟨⟨t00, p0, p2, p3, p4, p5, p6, p7, p8, p9, t14, l14, g14, t252, l252, g252a, g252b, t263, l263⟩, hTx, hA, hH, hS0, hS1, hSv, hm, hgR, hgRn, hgRs⟩, hsc⟩ := hL
  have hA0 := hA
  obtain ⟨⟨s1, s2, a0, -, -, -, -, -, -, -, -, -, -⟩, hB, an, aT, -⟩ := hA
  have bn := hB.1
  have bT := hB.2.1
  have g180 := hH.1.1
  have g180n := hH.2.2.1
  have tr170 := hsc.2.2.1.2.2.1
  have hn14 := hH.2.1
  show mv_Ev sc 66 0 [(2, 0)] [] c h _
  have hK : (mv_m 66).1 = kc_LT_undo := rfl
  refine e_step (pc' := 1) hK rfl rfl rfl ?_
  refine e_getR (ci := 0) (k := 7) (pc' := 4) hK rfl (by simp (disch := omega) only [t00, p0, p2, p3, p4, p5, p6, p7, p8, p9, a0, an, aT, g180, g180n, tr170]) rfl rfl (by decide) (by decide) (by (try simp (disch := omega) only [t00, p0, p2, p3, p4, p5, p6, p7, p8, p9, a0, an, aT, g180, g180n, tr170]); omega) rfl ?_
  try simp (disch := omega) only [t00, p0, p2, p3, p4, p5, p6, p7, p8, p9, a0, an, aT, g180, g180n, tr170]
  refine e_getI (ci := 3) (k := 2) (pc' := 7) hK rfl (by simp (disch := omega) only [t00, p0, p2, p3, p4, p5, p6, p7, p8, p9, a0, an, aT, g180, g180n, tr170]) rfl rfl (by decide) (by decide) rfl ?_
  try simp (disch := omega) only [t00, p0, p2, p3, p4, p5, p6, p7, p8, p9, a0, an, aT, g180, g180n, tr170]
  refine e_if (t := 20) (pc' := 10) hK rfl (by omega) (by decide) rfl (fun hb7 => ?_) (fun hb7 => ?_)
  · replace hb7 := cq_ne.1.mp hb7
    refine e_step (pc' := 21) hK rfl rfl rfl ?_
    refine e_getR (ci := 0) (k := 7) (pc' := 24) hK rfl (by simp (disch := omega) only [t00, p0, p2, p3, p4, p5, p6, p7, p8, p9, a0, an, aT, g180, g180n, tr170]) rfl rfl (by decide) (by decide) (by (try simp (disch := omega) only [t00, p0, p2, p3, p4, p5, p6, p7, p8, p9, a0, an, aT, g180, g180n, tr170]); omega) rfl ?_
    try simp (disch := omega) only [t00, p0, p2, p3, p4, p5, p6, p7, p8, p9, a0, an, aT, g180, g180n, tr170]
    refine e_step (pc' := 25) hK rfl rfl rfl ?_
    refine e_getR (ci := 0) (k := 4) (pc' := 28) hK rfl (by simp (disch := omega) only [t00, p0, p2, p3, p4, p5, p6, p7, p8, p9, a0, an, aT, g180, g180n, tr170]) rfl rfl (by decide) (by decide) (by (try simp (disch := omega) only [t00, p0, p2, p3, p4, p5, p6, p7, p8, p9, a0, an, aT, g180, g180n, tr170]); omega) rfl ?_
    try simp (disch := omega) only [t00, p0, p2, p3, p4, p5, p6, p7, p8, p9, a0, an, aT, g180, g180n, tr170]
    refine e_cQV2 (z := 37) hK rfl rfl (by first | (simp (disch := omega) only [t00, p0, p2, p3, p4, p5, p6, p7, p8, p9, a0, an, aT, g180, g180n, tr170]; rfl) | (show _ = 2; assumption) | (show _ = 1; assumption) | (show _ = 0; assumption) | (show _ = 3; assumption) | (show _ = 4; assumption)) rfl (Nat.le_of_ble_eq_true rfl) (Nat.le_of_ble_eq_true rfl) (c_takeBack hH hA0 (by omega)) ?_
    rintro _ _ h2 ⟨rfl, rfl, hH2, hs2, hf2⟩
    refine ⟨by decide, ?_⟩
    rw [if_pos rfl]
    have oo0 : h2 0 = _ := hf2 0 (by omega)
    have o180 := hH2.1.1
    have o180n := hH2.2.2.1
    show mv_Ev _ _ 31 _ _ _ _ _
    refine e_step (pc' := 32) hK rfl rfl rfl ?_
    refine e_getR (ci := 0) (k := 7) (pc' := 35) hK rfl (by simp (disch := omega) only [t00, p0, p2, p3, p4, p5, p6, p7, p8, p9, a0, an, aT, g180, g180n, tr170, oo0, o180, o180n]) rfl rfl (by decide) (by decide) (by (try simp (disch := omega) only [t00, p0, p2, p3, p4, p5, p6, p7, p8, p9, a0, an, aT, g180, g180n, tr170, oo0, o180, o180n]); omega) rfl ?_
    try simp (disch := omega) only [t00, p0, p2, p3, p4, p5, p6, p7, p8, p9, a0, an, aT, g180, g180n, tr170, oo0, o180, o180n]
    refine e_getI (ci := 3) (k := 2) (pc' := 38) hK rfl (by simp (disch := omega) only [t00, p0, p2, p3, p4, p5, p6, p7, p8, p9, a0, an, aT, g180, g180n, tr170, oo0, o180, o180n]) rfl rfl (by decide) (by decide) rfl ?_
    try simp (disch := omega) only [t00, p0, p2, p3, p4, p5, p6, p7, p8, p9, a0, an, aT, g180, g180n, tr170, oo0, o180, o180n]
    refine e_ret hK rfl rfl rfl ?_
    rw [show ((wn W - 1 : Nat) : Int) = (wn W : Int) - 1 from by omega]
    have e9 : sp_undo W = (0, (wn W : Int) - 1, (wN W, wF W, wg W ((wn W : Int) - 1), wn W - 1, wg W, wk W, wS W)) := by { unfold sp_undo; (repeat (first | rw [if_pos (by omega)] | rw [if_neg (by omega)])) }
    rw [e9]
    refine ⟨rfl, rfl, hL0.back hH2 hs2 hf2 (by omega), fun b b0 b1 => hf2 b (by omega), ?_⟩
    dsimp only
    have := hH.2.1; omega
  · replace hb7 := cq_ne.2.mp hb7
    refine e_thr (E := 1) hK rfl rfl rfl rfl ?_
    have e9 : sp_undo W = (1, 0, W) := by { unfold sp_undo; (repeat (first | rw [if_pos (by omega)] | rw [if_neg (by omega)])) }
    rw [e9]
    refine ⟨rfl, rfl, hL0, fun b _ _ => rfl, ?_⟩
    dsimp only
    omega
set_option maxRecDepth 10000 in
theorem f_saves {m : Nat} {W : wt} (hL : LtA m h W) : mv_Cl sc q_LT_saves [(2, 0)] c h (fun r c' h' => r = clr 9 9 (sp_saves W).1 (sp_saves W).2.1 ∧ c' = cck (sp_saves W).1 c ∧ LtA m h' (sp_saves W).2.2 ∧ (∀ b : Int, 264 ≤ b → b ≤ 276 → h' b = h b) ∧ mv_i (sp_saves W).2.1) := by
  have hL0 := hL
  obtain ⟨⟨⟨t00, p0, p2, p3, p4, p5, p6, p7, p8, p9, t14, l14, g14, t252, l252, g252a, g252b, t263, l263⟩, hTx, hA, hH, hS0, hS1, hSv, hm, hgR, hgRn, hgRs⟩, hsc⟩ := hL
  have hA0 := hA
  obtain ⟨⟨s1, s2, a0, -, -, -, -, -, -, -, -, -, -⟩, hB, an, aT, -⟩ := hA
  have bn := hB.1
  have bT := hB.2.1
  have g180 := hH.1.1
  have g180n := hH.2.2.1
  have tr170 := hsc.2.2.1.2.2.1
  have hn14 := hH.2.1
  show mv_Ev sc 49 0 [(2, 0)] [] c h _
  have hK : (mv_m 49).1 = kc_LT_saves := rfl
  refine e_step (pc' := 1) hK rfl rfl rfl ?_
  refine e_getR (ci := 0) (k := 5) (pc' := 4) hK rfl (by simp (disch := omega) only [t00, p0, p2, p3, p4, p5, p6, p7, p8, p9, a0, an, aT, g180, g180n, tr170]) rfl rfl (by decide) (by decide) (by (try simp (disch := omega) only [t00, p0, p2, p3, p4, p5, p6, p7, p8, p9, a0, an, aT, g180, g180n, tr170]); first | omega | (have q9 := glv_b hB; omega)) rfl ?_
  try simp (disch := omega) only [t00, p0, p2, p3, p4, p5, p6, p7, p8, p9, a0, an, aT, g180, g180n, tr170]
  refine e_step (pc' := 5) hK rfl rfl rfl ?_
  refine e_getR (ci := 0) (k := 4) (pc' := 8) hK rfl (by simp (disch := omega) only [t00, p0, p2, p3, p4, p5, p6, p7, p8, p9, a0, an, aT, g180, g180n, tr170]) rfl rfl (by decide) (by decide) (by (try simp (disch := omega) only [t00, p0, p2, p3, p4, p5, p6, p7, p8, p9, a0, an, aT, g180, g180n, tr170]); first | omega | (have q9 := glv_b hB; omega)) rfl ?_
  try simp (disch := omega) only [t00, p0, p2, p3, p4, p5, p6, p7, p8, p9, a0, an, aT, g180, g180n, tr170]
  refine e_cQV2 (z := 16) hK rfl rfl (by first | (simp (disch := omega) only [t00, p0, p2, p3, p4, p5, p6, p7, p8, p9, a0, an, aT, g180, g180n, tr170]; rfl) | (show _ = 2; assumption) | (show _ = 1; assumption) | (show _ = 0; assumption) | (show _ = 3; assumption) | (show _ = 4; assumption)) rfl (Nat.le_of_ble_eq_true rfl) (Nat.le_of_ble_eq_true rfl) (c_copyW hsc.2.2.1 hA0 (by omega)) ?_
  rintro _ _ g0 ⟨rfl, rfl, hs0, hf0⟩
  refine ⟨by decide, ?_⟩
  rw [if_pos rfl]
  have u0 := hf0 0 (by omega)
  show mv_Ev _ _ 11 _ _ _ _ _
  refine e_step (pc' := 12) hK rfl rfl rfl ?_
  refine e_getR (ci := 0) (k := 5) (pc' := 15) hK rfl (by simp (disch := omega) only [t00, p0, p2, p3, p4, p5, p6, p7, p8, p9, a0, an, aT, g180, g180n, tr170, u0]) rfl rfl (by decide) (by decide) (by (try simp (disch := omega) only [t00, p0, p2, p3, p4, p5, p6, p7, p8, p9, a0, an, aT, g180, g180n, tr170, u0]); first | omega | (have q9 := glv_b hB; omega)) rfl ?_
  try simp (disch := omega) only [t00, p0, p2, p3, p4, p5, p6, p7, p8, p9, a0, an, aT, g180, g180n, tr170, u0]
  refine e_cQS1 (z := 98) hK rfl rfl rfl (Nat.le_of_ble_eq_true rfl) (Nat.le_of_ble_eq_true rfl) (c_learnFirst hs0) ?_
  rintro _ _ g1 ⟨rfl, rfl, hs1, hf1⟩
  refine ⟨by show (0 : Nat) ≠ 4; decide, ?_⟩
  rw [if_neg (by show ¬ (0 : Nat) = 3; decide)]
  try dsimp only
  have w0 := hf1 0 (by omega)
  have hf01 : ∀ b : Int, (b < 170 ∨ 174 < b) → g1 b = _ := fun b hb => (hf1 b hb).trans (hf0 b hb)
  have hL1 := hL0.tr hs1.1 hf01
  show mv_Ev _ _ 18 _ _ _ _ _
  refine e_step (pc' := 21) hK rfl rfl rfl ?_
  refine e_icmp (t := 28) (pc' := 24) hK rfl (by first | omega | (have q9 := glv_b hB; omega)) (by first | omega | (have q9 := glv_b hB; omega)) (by decide) rfl (fun hb21 => ?_) (fun hb21 => ?_)
  · replace hb21 := cq_ne.1.mp hb21
    refine e_step (pc' := 29) hK rfl rfl rfl ?_
    refine e_getR (ci := 0) (k := 4) (pc' := 32) hK rfl (by simp (disch := omega) only [t00, p0, p2, p3, p4, p5, p6, p7, p8, p9, a0, an, aT, g180, g180n, tr170, u0, w0, u0]) rfl rfl (by decide) (by decide) (by (try simp (disch := omega) only [t00, p0, p2, p3, p4, p5, p6, p7, p8, p9, a0, an, aT, g180, g180n, tr170, u0, w0, u0]); first | omega | (have q9 := glv_b hB; omega)) rfl ?_
    try simp (disch := omega) only [t00, p0, p2, p3, p4, p5, p6, p7, p8, p9, a0, an, aT, g180, g180n, tr170, u0, w0, u0]
    refine e_cRS1 (z := 80) (pc' := 35) hK rfl rfl rfl (Nat.le_of_ble_eq_true rfl) (Nat.le_of_ble_eq_true rfl) (c_ofAll hL1.1.2.2.1) (by decide) rfl ?_
    try simp (disch := omega) only [t00, p0, p2, p3, p4, p5, p6, p7, p8, p9, a0, an, aT, g180, g180n, tr170, u0, w0, u0]
    refine e_step (pc' := 36) hK rfl rfl rfl ?_
    refine e_getR (ci := 0) (k := 5) (pc' := 39) hK rfl (by simp (disch := omega) only [t00, p0, p2, p3, p4, p5, p6, p7, p8, p9, a0, an, aT, g180, g180n, tr170, u0, w0, u0]) rfl rfl (by decide) (by decide) (by (try simp (disch := omega) only [t00, p0, p2, p3, p4, p5, p6, p7, p8, p9, a0, an, aT, g180, g180n, tr170, u0, w0, u0]); first | omega | (have q9 := glv_b hB; omega)) rfl ?_
    try simp (disch := omega) only [t00, p0, p2, p3, p4, p5, p6, p7, p8, p9, a0, an, aT, g180, g180n, tr170, u0, w0, u0]
    refine e_cRS1 (z := 80) (pc' := 42) hK rfl rfl rfl (Nat.le_of_ble_eq_true rfl) (Nat.le_of_ble_eq_true rfl) (c_ofAll hs1) (by decide) rfl ?_
    try simp (disch := omega) only [t00, p0, p2, p3, p4, p5, p6, p7, p8, p9, a0, an, aT, g180, g180n, tr170, u0, w0, u0]
    refine e_step (pc' := 43) hK rfl rfl rfl ?_
    refine e_ret hK rfl rfl rfl ?_
    have q1 := cal_b hB
    have q2 := cal_b hs1.2.1
    refine ⟨?_, rfl, hL1, fun b b0 b1 => hf01 b (by omega), ?_⟩
    · show (0, _) = (0, if _ then _ else _); rw [if_neg hb21]
    · show mv_i (if _ then _ else _); rw [if_neg hb21]; omega
  · replace hb21 := cq_ne.2.mp hb21
    refine e_step (pc' := 27) hK rfl rfl rfl ?_
    refine e_ret hK rfl rfl rfl ?_
    refine ⟨?_, rfl, hL1, fun b b0 b1 => hf01 b (by omega), ?_⟩
    · show (0, _) = (0, if _ then _ else _); rw [if_pos hb21]
    · show mv_i (if _ then _ else _); rw [if_pos hb21]; omega
set_option maxRecDepth 10000 in
theorem f_save {m : Nat} {W : wt} (hL : LtA m h W) (s : Int) (hs : mv_i s) : mv_Cl sc q_LT_save [(2, 0), (0, s)] c h (fun r c' h' => r = clr 2 9 (sp_save W s).1 (sp_save W s).2.1 ∧ c' = cck (sp_save W s).1 c ∧ LtA m h' (sp_save W s).2.2 ∧ (∀ b : Int, 264 ≤ b → b ≤ 276 → h' b = h b) ∧ mv_i (sp_save W s).2.1) := by
  have hL0 := hL
  obtain ⟨⟨⟨t00, p0, p2, p3, p4, p5, p6, p7, p8, p9, t14, l14, g14, t252, l252, g252a, g252b, t263, l263⟩, hTx, hA, hH, hS0, hS1, hSv, hm, hgR, hgRn, hgRs⟩, hsc⟩ := hL
  have hA0 := hA
  obtain ⟨⟨s1, s2, a0, -, -, -, -, -, -, -, -, -, -⟩, hB, an, aT, -⟩ := hA
  have bn := hB.1
  have bT := hB.2.1
  have g180 := hH.1.1
  have g180n := hH.2.2.1
  have tr170 := hsc.2.2.1.2.2.1
  have hn14 := hH.2.1
  have gSV : ∀ k : Int, (k = 0 ∨ k = 1) → (h 252).2.2 k = 253 + 5 * k := fun k hk => by { rcases hk with rfl | rfl; exact g252a; exact g252b }
  have hSW : ∀ k : Int, (k = 0 ∨ k = 1) → StW h (253 + 5 * k) := fun k hk => by { rcases hk with rfl | rfl; exact hS0; exact hS1 }
  show mv_Ev sc 75 0 [(2, 0), (0, s)] [] c h _
  have hK : (mv_m 75).1 = kc_LT_save := rfl
  refine e_step (pc' := 1) hK rfl rfl rfl ?_
  refine e_callX (z := 76) (vs := [(0, s)]) (r := []) hK rfl rfl rfl rfl rfl (Nat.le_of_ble_eq_true rfl) rfl (Nat.le_of_ble_eq_true rfl) (by decide) rfl rfl rfl (f_checkSlot s hs) ?_
  rintro _ _ _ ⟨rfl, hq⟩
  rcases hq with ⟨hx1, rfl, rfl⟩ | ⟨hx1, rfl, rfl⟩
  rotate_left
  · refine Or.inr ⟨rfl, by decide, by decide, ?_⟩
    have e9 : sp_save W s = (1, 0, W) := by { unfold sp_save; (repeat (first | rw [if_pos (by omega)] | rw [if_neg (by omega)])) }
    rw [e9]
    refine ⟨rfl, rfl, hL0, fun b _ _ => rfl, ?_⟩
    dsimp only
    omega
  refine Or.inl ⟨by decide, ?_⟩
  rw [if_pos rfl]
  show mv_Ev _ _ 4 _ _ _ _ _
  have gsv := gSV s (by omega)
  have hSs : StW _ (253 + 5 * s) := hSW s (by omega)
  have tgS := hSs.2.2.1
  refine e_step (pc' := 5) hK rfl rfl rfl ?_
  refine e_getR (ci := 0) (k := 8) (pc' := 8) hK rfl (by simp (disch := omega) only [t00, p0, p2, p3, p4, p5, p6, p7, p8, p9, a0, an, aT, g180, g180n, tr170, t252, l252, t263, l263, uo_n, gsv, tgS]) rfl rfl (by decide) (by decide) (by (try simp (disch := omega) only [t00, p0, p2, p3, p4, p5, p6, p7, p8, p9, a0, an, aT, g180, g180n, tr170, t252, l252, t263, l263, uo_n, gsv, tgS]); omega) rfl ?_
  try simp (disch := omega) only [t00, p0, p2, p3, p4, p5, p6, p7, p8, p9, a0, an, aT, g180, g180n, tr170, t252, l252, t263, l263, uo_n, gsv, tgS]
  refine e_step (pc' := 9) hK rfl rfl rfl ?_
  refine e_aald (pc' := 10) hK rfl (by simp (disch := omega) only [t00, p0, p2, p3, p4, p5, p6, p7, p8, p9, a0, an, aT, g180, g180n, tr170, t252, l252, t263, l263, uo_n, gsv, tgS]; decide) (by omega) (by (try simp (disch := omega) only [t00, p0, p2, p3, p4, p5, p6, p7, p8, p9, a0, an, aT, g180, g180n, tr170, t252, l252, t263, l263, uo_n, gsv, tgS]); omega) (by (try simp (disch := omega) only [t00, p0, p2, p3, p4, p5, p6, p7, p8, p9, a0, an, aT, g180, g180n, tr170, t252, l252, t263, l263, uo_n, gsv, tgS]); omega) rfl ?_
  try simp (disch := omega) only [t00, p0, p2, p3, p4, p5, p6, p7, p8, p9, a0, an, aT, g180, g180n, tr170, t252, l252, t263, l263, uo_n, gsv, tgS]
  refine e_step (pc' := 11) hK rfl rfl rfl ?_
  refine e_getR (ci := 0) (k := 4) (pc' := 14) hK rfl (by simp (disch := omega) only [t00, p0, p2, p3, p4, p5, p6, p7, p8, p9, a0, an, aT, g180, g180n, tr170, t252, l252, t263, l263, uo_n, gsv, tgS]) rfl rfl (by decide) (by decide) (by (try simp (disch := omega) only [t00, p0, p2, p3, p4, p5, p6, p7, p8, p9, a0, an, aT, g180, g180n, tr170, t252, l252, t263, l263, uo_n, gsv, tgS]); omega) rfl ?_
  try simp (disch := omega) only [t00, p0, p2, p3, p4, p5, p6, p7, p8, p9, a0, an, aT, g180, g180n, tr170, t252, l252, t263, l263, uo_n, gsv, tgS]
  refine e_cQV2 (z := 16) hK rfl rfl (by first | (simp (disch := omega) only [t00, p0, p2, p3, p4, p5, p6, p7, p8, p9, a0, an, aT, g180, g180n, tr170, t252, l252, t263, l263, uo_n, gsv, tgS]; rfl) | (show _ = 2; assumption) | (show _ = 1; assumption) | (show _ = 0; assumption) | (show _ = 3; assumption) | (show _ = 4; assumption)) rfl (Nat.le_of_ble_eq_true rfl) (Nat.le_of_ble_eq_true rfl) (c_copyW hSs hA0 (by omega)) ?_
  rintro _ _ h2 ⟨rfl, rfl, hs2, hf2⟩
  refine ⟨by decide, ?_⟩
  rw [if_pos rfl]
  have oo0 := hf2 0 (by omega)
  have oo263 := hf2 263 (by omega)
  have oo165 := hf2 165 (by omega)
  show mv_Ev _ _ 17 _ _ _ _ _
  refine e_step (pc' := 18) hK rfl rfl rfl ?_
  refine e_getR (ci := 0) (k := 9) (pc' := 21) hK rfl (by simp (disch := omega) only [t00, p0, p2, p3, p4, p5, p6, p7, p8, p9, a0, an, aT, g180, g180n, tr170, t252, l252, t263, l263, uo_n, gsv, tgS, oo0, oo263, oo165]) rfl rfl (by decide) (by decide) (by (try simp (disch := omega) only [t00, p0, p2, p3, p4, p5, p6, p7, p8, p9, a0, an, aT, g180, g180n, tr170, t252, l252, t263, l263, uo_n, gsv, tgS, oo0, oo263, oo165]); omega) rfl ?_
  try simp (disch := omega) only [t00, p0, p2, p3, p4, p5, p6, p7, p8, p9, a0, an, aT, g180, g180n, tr170, t252, l252, t263, l263, uo_n, gsv, tgS, oo0, oo263, oo165]
  refine e_step (pc' := 22) hK rfl rfl rfl ?_
  refine e_step (pc' := 23) hK rfl rfl rfl ?_
  refine e_bast (pc' := 24) hK rfl (by simp (disch := omega) only [t00, p0, p2, p3, p4, p5, p6, p7, p8, p9, a0, an, aT, g180, g180n, tr170, t252, l252, t263, l263, uo_n, gsv, tgS, oo0, oo263, oo165]) (by omega) (by (try simp (disch := omega) only [t00, p0, p2, p3, p4, p5, p6, p7, p8, p9, a0, an, aT, g180, g180n, tr170, t252, l252, t263, l263, uo_n, gsv, tgS, oo0, oo263, oo165]); omega) (by omega) rfl ?_
  refine e_step (pc' := 25) hK rfl rfl rfl ?_
  refine e_getR (ci := 0) (k := 4) (pc' := 28) hK rfl (by simp (disch := omega) only [t00, p0, p2, p3, p4, p5, p6, p7, p8, p9, a0, an, aT, g180, g180n, tr170, t252, l252, t263, l263, uo_n, gsv, tgS, oo0, oo263, oo165]) rfl rfl (by decide) (by decide) (by (try simp (disch := omega) only [t00, p0, p2, p3, p4, p5, p6, p7, p8, p9, a0, an, aT, g180, g180n, tr170, t252, l252, t263, l263, uo_n, gsv, tgS, oo0, oo263, oo165]); omega) rfl ?_
  try simp (disch := omega) only [t00, p0, p2, p3, p4, p5, p6, p7, p8, p9, a0, an, aT, g180, g180n, tr170, t252, l252, t263, l263, uo_n, gsv, tgS, oo0, oo263, oo165]
  refine e_getI (ci := 2) (k := 5) (pc' := 31) hK rfl (by simp (disch := omega) only [t00, p0, p2, p3, p4, p5, p6, p7, p8, p9, a0, an, aT, g180, g180n, tr170, t252, l252, t263, l263, uo_n, gsv, tgS, oo0, oo263, oo165]) rfl rfl (by decide) (by decide) rfl ?_
  try simp (disch := omega) only [t00, p0, p2, p3, p4, p5, p6, p7, p8, p9, a0, an, aT, g180, g180n, tr170, t252, l252, t263, l263, uo_n, gsv, tgS, oo0, oo263, oo165]
  refine e_ret hK rfl rfl rfl ?_
  have e9 : sp_save W s = (0, ((gn (wA W) : Nat) : Int), (wN W, wF W, wA W, wn W, wg W, gu (wk W) s true, gu (wS W) s (wA W))) := by { unfold sp_save; (repeat (first | rw [if_pos (by omega)] | rw [if_neg (by omega)])) }
  rw [e9]
  refine ⟨rfl, rfl, hL0.sav (by omega) hs2 hf2 (fun b hb => uo_n hb) (by rw [uo_s, oo263]; first | rfl | exact t263.symm) (by rw [uo_s, oo263]; first | rfl | exact l263.symm) (by rw [uo_s, oo263]), fun b b0 b1 => by { rw [uo_n (by omega)]; exact hf2 b (by omega) }, ?_⟩
  dsimp only
  omega
set_option maxRecDepth 10000 in
theorem f_restore {m : Nat} {W : wt} (hL : LtA m h W) (s : Int) (hs : mv_i s) : mv_Cl sc q_LT_restore [(2, 0), (0, s)] c h (fun r c' h' => r = clr 2 1 (sp_restore W s).1 (sp_restore W s).2.1 ∧ c' = cck (sp_restore W s).1 c ∧ LtA m h' (sp_restore W s).2.2 ∧ (∀ b : Int, 264 ≤ b → b ≤ 276 → h' b = h b) ∧ mv_i (sp_restore W s).2.1) := by
  have hL0 := hL
  obtain ⟨⟨⟨t00, p0, p2, p3, p4, p5, p6, p7, p8, p9, t14, l14, g14, t252, l252, g252a, g252b, t263, l263⟩, hTx, hA, hH, hS0, hS1, hSv, hm, hgR, hgRn, hgRs⟩, hsc⟩ := hL
  have hA0 := hA
  obtain ⟨⟨s1, s2, a0, -, -, -, -, -, -, -, -, -, -⟩, hB, an, aT, -⟩ := hA
  have bn := hB.1
  have bT := hB.2.1
  have g180 := hH.1.1
  have g180n := hH.2.2.1
  have tr170 := hsc.2.2.1.2.2.1
  have hn14 := hH.2.1
  have gSV : ∀ k : Int, (k = 0 ∨ k = 1) → (h 252).2.2 k = 253 + 5 * k := fun k hk => by { rcases hk with rfl | rfl; exact g252a; exact g252b }
  show mv_Ev sc 77 0 [(2, 0), (0, s)] [] c h _
  have hK : (mv_m 77).1 = kc_LT_restore := rfl
  refine e_step (pc' := 1) hK rfl rfl rfl ?_
  refine e_callX (z := 76) (vs := [(0, s)]) (r := []) hK rfl rfl rfl rfl rfl (Nat.le_of_ble_eq_true rfl) rfl (Nat.le_of_ble_eq_true rfl) (by decide) rfl rfl rfl (f_checkSlot s hs) ?_
  rintro _ _ _ ⟨rfl, hq⟩
  rcases hq with ⟨hx1, rfl, rfl⟩ | ⟨hx1, rfl, rfl⟩
  rotate_left
  · refine Or.inr ⟨rfl, by decide, by decide, ?_⟩
    have e9 : sp_restore W s = (1, 0, W) := by { unfold sp_restore; (repeat (first | rw [if_pos (by omega)] | rw [if_neg (by omega)])) }
    rw [e9]
    refine ⟨rfl, rfl, hL0, fun b _ _ => rfl, ?_⟩
    dsimp only
    omega
  refine Or.inl ⟨by decide, ?_⟩
  rw [if_pos rfl]
  show mv_Ev _ _ 4 _ _ _ _ _
  have gsv := gSV s (by omega)
  have gkv := (hSv s (by omega)).1
  refine e_step (pc' := 5) hK rfl rfl rfl ?_
  refine e_getR (ci := 0) (k := 9) (pc' := 8) hK rfl (by simp (disch := omega) only [t00, p0, p2, p3, p4, p5, p6, p7, p8, p9, a0, an, aT, g180, g180n, tr170, t252, l252, t263, l263, gsv, gkv]) rfl rfl (by decide) (by decide) (by (try simp (disch := omega) only [t00, p0, p2, p3, p4, p5, p6, p7, p8, p9, a0, an, aT, g180, g180n, tr170, t252, l252, t263, l263, gsv, gkv]); first | omega | exact bo_i _) rfl ?_
  try simp (disch := omega) only [t00, p0, p2, p3, p4, p5, p6, p7, p8, p9, a0, an, aT, g180, g180n, tr170, t252, l252, t263, l263, gsv, gkv]
  refine e_step (pc' := 9) hK rfl rfl rfl ?_
  refine e_bald (pc' := 10) hK rfl (by simp (disch := omega) only [t00, p0, p2, p3, p4, p5, p6, p7, p8, p9, a0, an, aT, g180, g180n, tr170, t252, l252, t263, l263, gsv, gkv]) (by first | omega | exact bo_i _) (by (try simp (disch := omega) only [t00, p0, p2, p3, p4, p5, p6, p7, p8, p9, a0, an, aT, g180, g180n, tr170, t252, l252, t263, l263, gsv, gkv]); first | omega | exact bo_i _) rfl ?_
  try simp (disch := omega) only [t00, p0, p2, p3, p4, p5, p6, p7, p8, p9, a0, an, aT, g180, g180n, tr170, t252, l252, t263, l263, gsv, gkv]
  refine e_if (t := 24) (pc' := 13) hK rfl (by first | omega | exact bo_i _) (by decide) rfl (fun hb10 => ?_) (fun hb10 => ?_)
  · replace hb10 := cq_ne.1.mp hb10
    try simp only [bo_0, Bool.not_eq_false] at hb10
    refine e_step (pc' := 25) hK rfl rfl rfl ?_
    refine e_getR (ci := 0) (k := 4) (pc' := 28) hK rfl (by simp (disch := omega) only [t00, p0, p2, p3, p4, p5, p6, p7, p8, p9, a0, an, aT, g180, g180n, tr170, t252, l252, t263, l263, gsv, gkv]) rfl rfl (by decide) (by decide) (by (try simp (disch := omega) only [t00, p0, p2, p3, p4, p5, p6, p7, p8, p9, a0, an, aT, g180, g180n, tr170, t252, l252, t263, l263, gsv, gkv]); first | omega | exact bo_i _) rfl ?_
    try simp (disch := omega) only [t00, p0, p2, p3, p4, p5, p6, p7, p8, p9, a0, an, aT, g180, g180n, tr170, t252, l252, t263, l263, gsv, gkv]
    refine e_step (pc' := 29) hK rfl rfl rfl ?_
    refine e_getR (ci := 0) (k := 8) (pc' := 32) hK rfl (by simp (disch := omega) only [t00, p0, p2, p3, p4, p5, p6, p7, p8, p9, a0, an, aT, g180, g180n, tr170, t252, l252, t263, l263, gsv, gkv]) rfl rfl (by decide) (by decide) (by (try simp (disch := omega) only [t00, p0, p2, p3, p4, p5, p6, p7, p8, p9, a0, an, aT, g180, g180n, tr170, t252, l252, t263, l263, gsv, gkv]); first | omega | exact bo_i _) rfl ?_
    try simp (disch := omega) only [t00, p0, p2, p3, p4, p5, p6, p7, p8, p9, a0, an, aT, g180, g180n, tr170, t252, l252, t263, l263, gsv, gkv]
    refine e_step (pc' := 33) hK rfl rfl rfl ?_
    refine e_aald (pc' := 34) hK rfl (by simp (disch := omega) only [t00, p0, p2, p3, p4, p5, p6, p7, p8, p9, a0, an, aT, g180, g180n, tr170, t252, l252, t263, l263, gsv, gkv]; decide) (by first | omega | exact bo_i _) (by (try simp (disch := omega) only [t00, p0, p2, p3, p4, p5, p6, p7, p8, p9, a0, an, aT, g180, g180n, tr170, t252, l252, t263, l263, gsv, gkv]); first | omega | exact bo_i _) (by (try simp (disch := omega) only [t00, p0, p2, p3, p4, p5, p6, p7, p8, p9, a0, an, aT, g180, g180n, tr170, t252, l252, t263, l263, gsv, gkv]); first | omega | exact bo_i _) rfl ?_
    try simp (disch := omega) only [t00, p0, p2, p3, p4, p5, p6, p7, p8, p9, a0, an, aT, g180, g180n, tr170, t252, l252, t263, l263, gsv, gkv]
    refine e_cQV2 (z := 16) hK rfl rfl (by first | (simp (disch := omega) only [t00, p0, p2, p3, p4, p5, p6, p7, p8, p9, a0, an, aT, g180, g180n, tr170, t252, l252, t263, l263, gsv, gkv]; rfl) | (show _ = 2; assumption) | (show _ = 1; assumption) | (show _ = 0; assumption) | (show _ = 3; assumption) | (show _ = 4; assumption)) rfl (Nat.le_of_ble_eq_true rfl) (Nat.le_of_ble_eq_true rfl) (c_copyFrom hA0 ((hSv s (by omega)).2 hb10) (by omega)) ?_
    rintro _ _ h1 ⟨rfl, rfl, hs1, hf1⟩
    refine ⟨by decide, ?_⟩
    rw [if_pos rfl]
    have o0 := hf1 0 (by omega)
    have o180 : (h1 180).1 = 3 := by { rw [hf1 180 (by omega)]; exact g180 }
    show mv_Ev _ _ 37 _ _ _ _ _
    refine e_step (pc' := 38) hK rfl rfl rfl ?_
    refine e_getR (ci := 0) (k := 7) (pc' := 41) hK rfl (by simp (disch := omega) only [t00, p0, p2, p3, p4, p5, p6, p7, p8, p9, a0, an, aT, g180, g180n, tr170, t252, l252, t263, l263, gsv, gkv, o0, o180]) rfl rfl (by decide) (by decide) (by (try simp (disch := omega) only [t00, p0, p2, p3, p4, p5, p6, p7, p8, p9, a0, an, aT, g180, g180n, tr170, t252, l252, t263, l263, gsv, gkv, o0, o180]); first | omega | exact bo_i _) rfl ?_
    try simp (disch := omega) only [t00, p0, p2, p3, p4, p5, p6, p7, p8, p9, a0, an, aT, g180, g180n, tr170, t252, l252, t263, l263, gsv, gkv, o0, o180]
    refine e_cQV1 (z := 38) hK rfl rfl (by first | (simp (disch := omega) only [t00, p0, p2, p3, p4, p5, p6, p7, p8, p9, a0, an, aT, g180, g180n, tr170, t252, l252, t263, l263, gsv, gkv, o0, o180]; rfl) | (show _ = 2; assumption) | (show _ = 1; assumption) | (show _ = 0; assumption) | (show _ = 3; assumption) | (show _ = 4; assumption)) rfl (Nat.le_of_ble_eq_true rfl) (Nat.le_of_ble_eq_true rfl) (c_forgetAll (hH.kq hgRn (fun b hb => hf1 b (by omega))) (wg W)) ?_
    rintro _ _ h2 ⟨rfl, rfl, hH2, hf2⟩
    refine ⟨by decide, ?_⟩
    rw [if_pos rfl]
    have oo0 := hf2 0 (by decide)
    have oo165 := hf2 165 (by decide)
    have n165 := hs1.2.2.1
    have t165 := hs1.1.2.2.1
    show mv_Ev _ _ 44 _ _ _ _ _
    refine e_step (pc' := 45) hK rfl rfl rfl ?_
    refine e_getR (ci := 0) (k := 4) (pc' := 48) hK rfl (by simp (disch := omega) only [t00, p0, p2, p3, p4, p5, p6, p7, p8, p9, a0, an, aT, g180, g180n, tr170, t252, l252, t263, l263, gsv, gkv, o0, o180, oo0, oo165, n165, t165]) rfl rfl (by decide) (by decide) (by (try simp (disch := omega) only [t00, p0, p2, p3, p4, p5, p6, p7, p8, p9, a0, an, aT, g180, g180n, tr170, t252, l252, t263, l263, gsv, gkv, o0, o180, oo0, oo165, n165, t165]); first | omega | exact bo_i _) rfl ?_
    try simp (disch := omega) only [t00, p0, p2, p3, p4, p5, p6, p7, p8, p9, a0, an, aT, g180, g180n, tr170, t252, l252, t263, l263, gsv, gkv, o0, o180, oo0, oo165, n165, t165]
    refine e_getI (ci := 2) (k := 5) (pc' := 51) hK rfl (by simp (disch := omega) only [t00, p0, p2, p3, p4, p5, p6, p7, p8, p9, a0, an, aT, g180, g180n, tr170, t252, l252, t263, l263, gsv, gkv, o0, o180, oo0, oo165, n165, t165]) rfl rfl (by decide) (by decide) rfl ?_
    try simp (disch := omega) only [t00, p0, p2, p3, p4, p5, p6, p7, p8, p9, a0, an, aT, g180, g180n, tr170, t252, l252, t263, l263, gsv, gkv, o0, o180, oo0, oo165, n165, t165]
    refine e_ret hK rfl rfl rfl ?_
    have e9 : sp_restore W s = (0, ((gn (wS W s) : Nat) : Int), (wN W, wF W, wS W s, 0, wg W, wk W, wS W)) := by { unfold sp_restore; rw [if_pos (by omega), if_pos hb10] }
    rw [e9]
    have := hs1.2.1.1
    exact ⟨rfl, rfl, hL0.rst (hgRs s (by omega) hb10) hs1 hf1 hH2 hf2, fun b b0 b1 => (hf2 b (by omega)).trans (hf1 b (by omega)), by dsimp only; omega⟩
  · replace hb10 := cq_ne.2.mp hb10
    try simp only [bo_0, Bool.not_eq_false] at hb10
    refine e_thr (E := 1) hK rfl rfl rfl rfl ?_
    have e9 : sp_restore W s = (2, 0, W) := by { unfold sp_restore; rw [if_pos (by omega), if_neg (by rw [hb10]; decide)] }
    rw [e9]
    exact ⟨rfl, rfl, hL0, fun b _ _ => rfl, by dsimp only; omega⟩
end FC
