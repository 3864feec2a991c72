/-! the face: actions (written by wip/whole/m62.py) -/
section FB
variable {sc : Int × (Int → Int)} {c : mv_C} {h : mv_H}
theorem LtA.txt {m : Nat} {W : wt} {h' : mv_H} {N : Nat} {f : Int → Int} (hL : LtA m h W) (hf : ∀ b : Int, b ≠ 0 → b ≠ 1 → h' b = h b) (h0 : (h' 0).1 = 0) (h1 : ∀ k : Int, k ≠ 1 → (h' 0).2.2 k = (h 0).2.2 k) (ht : TxA h' N f) : LtA m h' (N, f, W.2.2) := by
  obtain ⟨⟨a1, a2, a3, a4, a5, a6, a7, a8, a9, a10, a11⟩, hs⟩ := hL
  refine ⟨⟨?_, ht, a3.kq a9 (fun b hb => hf b (by omega) (by omega)), a4.kq a10 (fun b hb => hf b (by omega) (by omega)), a5.kq (fun b hb => hf b (by omega) (by omega)), a6.kq (fun b hb => hf b (by omega) (by omega)), fun s hs => ⟨?_, fun e => ((a7 s hs).2 e).kq (a11 s hs e) (fun b hb => hf b (by omega) (by omega))⟩, a8, a9, a10, a11⟩, hs.kq (fun b hb => hf b (by omega) (by omega))⟩
  · unfold LtP at *
    rw [h1 0 (by omega), h1 2 (by omega), h1 3 (by omega), h1 4 (by omega), h1 5 (by omega), h1 6 (by omega), h1 7 (by omega), h1 8 (by omega), h1 9 (by omega), hf 14 (by omega) (by omega), hf 252 (by omega) (by omega), hf 263 (by omega) (by omega)]
    exact ⟨h0, a1.2⟩
  · rw [hf 263 (by omega) (by omega)]; exact (a7 s hs).1
set_option maxRecDepth 10000 in
theorem f_append {m : Nat} {W : wt} (hL : LtA m h W) (x : Int) (hx : mv_i x) : mv_Cl sc q_LT_append [(2, 0), (0, x)] c h (fun r c' h' => r = clr 0 1 (sp_append W x).1 (sp_append W x).2.1 ∧ c' = cck (sp_append W x).1 c ∧ LtA m h' (sp_append W x).2.2 ∧ (∀ b : Int, 264 ≤ b → b ≤ 276 → h' b = h b) ∧ mv_i (sp_append W x).2.1) := by
  have hL0 := hL
  obtain ⟨⟨⟨t00, p0, p2, p3, p4, p5, p6, p7, p8, p9, t14, l14, g14, t252, l252, g252a, g252b, t263, l263⟩, hTx, hA, hH, hS0, hS1, hSv, hm, hgR, hgRn, hgRs⟩, hsc⟩ := hL
  have hA0 := hA
  obtain ⟨⟨s1, s2, a0, -, -, -, -, -, -, -, -, -, -⟩, hB, an, aT, -⟩ := hA
  have bn := hB.1
  have bT := hB.2.1
  have g180 := hH.1.1
  have g180n := hH.2.2.1
  have tn := hTx.2.2.1
  have t1g := hTx.2.2.2.1
  have t1l := hTx.2.2.2.2.1
  have hN := hTx.2.2.2.2.2.1
  show mv_Ev sc 50 0 [(2, 0), (0, x)] [] c h _
  have hK : (mv_m 50).1 = kc_LT_append := rfl
  refine e_step (pc' := 1) hK rfl rfl rfl ?_
  refine e_if (t := 11) (pc' := 4) hK rfl (by omega) (by decide) rfl (fun hb1 => ?_) (fun hb1 => ?_)
  · replace hb1 := cq_lt.1.mp hb1
    refine e_thr (E := 0) hK rfl rfl rfl rfl ?_
    have e9 : sp_append W x = (1, 0, W) := by { unfold sp_append; (repeat (first | rw [if_pos (by omega)] | rw [if_neg (by omega)])) }
    rw [e9]
    refine ⟨rfl, rfl, hL0, fun b _ _ => rfl, ?_⟩
    dsimp only
    omega
  · replace hb1 := cq_lt.2.mp hb1
    refine e_step (pc' := 5) hK rfl rfl rfl ?_
    refine e_step (pc' := 8) hK rfl rfl rfl ?_
    refine e_icmp (t := 21) (pc' := 11) hK rfl (by omega) (by omega) (by decide) rfl (fun hb8 => ?_) (fun hb8 => ?_)
    · replace hb8 := cq_le.1.mp hb8
      refine e_step (pc' := 22) hK rfl rfl rfl ?_
      refine e_getI (ci := 0) (k := 1) (pc' := 25) hK rfl (by simp (disch := omega) only [t00, p0, p2, p3, p4, p5, p6, p7, p8, p9, a0, an, aT, g180, g180n, tn, t1g, t1l, uo_s, uo_n, up_s, up_n]) rfl rfl (by decide) (by decide) rfl ?_
      try simp (disch := omega) only [t00, p0, p2, p3, p4, p5, p6, p7, p8, p9, a0, an, aT, g180, g180n, tn, t1g, t1l, uo_s, uo_n, up_s, up_n]
      refine e_step (pc' := 26) hK rfl rfl rfl ?_
      refine e_getR (ci := 0) (k := 0) (pc' := 29) hK rfl (by simp (disch := omega) only [t00, p0, p2, p3, p4, p5, p6, p7, p8, p9, a0, an, aT, g180, g180n, tn, t1g, t1l, uo_s, uo_n, up_s, up_n]) rfl rfl (by decide) (by decide) (by (try simp (disch := omega) only [t00, p0, p2, p3, p4, p5, p6, p7, p8, p9, a0, an, aT, g180, g180n, tn, t1g, t1l, uo_s, uo_n, up_s, up_n]); omega) rfl ?_
      try simp (disch := omega) only [t00, p0, p2, p3, p4, p5, p6, p7, p8, p9, a0, an, aT, g180, g180n, tn, t1g, t1l, uo_s, uo_n, up_s, up_n]
      refine e_alen (pc' := 30) hK rfl (by simp only [t00, p0, p2, p3, p4, p5, p6, p7, p8, p9, a0, an, aT, g180, g180n, tn, t1g, t1l, uo_s, uo_n, up_s, up_n]; decide) rfl ?_
      try simp (disch := omega) only [t00, p0, p2, p3, p4, p5, p6, p7, p8, p9, a0, an, aT, g180, g180n, tn, t1g, t1l, uo_s, uo_n, up_s, up_n]
      refine e_icmp (t := 43) (pc' := 33) hK rfl (by omega) (by omega) (by decide) rfl (fun hb30 => ?_) (fun hb30 => ?_)
      · replace hb30 := cq_lt.1.mp hb30
        refine e_step (pc' := 44) hK rfl rfl rfl ?_
        refine e_getR (ci := 0) (k := 0) (pc' := 47) hK rfl (by simp (disch := omega) only [t00, p0, p2, p3, p4, p5, p6, p7, p8, p9, a0, an, aT, g180, g180n, tn, t1g, t1l, uo_s, uo_n, up_s, up_n]) rfl rfl (by decide) (by decide) (by (try simp (disch := omega) only [t00, p0, p2, p3, p4, p5, p6, p7, p8, p9, a0, an, aT, g180, g180n, tn, t1g, t1l, uo_s, uo_n, up_s, up_n]); omega) rfl ?_
        try simp (disch := omega) only [t00, p0, p2, p3, p4, p5, p6, p7, p8, p9, a0, an, aT, g180, g180n, tn, t1g, t1l, uo_s, uo_n, up_s, up_n]
        refine e_step (pc' := 48) hK rfl rfl rfl ?_
        refine e_getI (ci := 0) (k := 1) (pc' := 51) hK rfl (by simp (disch := omega) only [t00, p0, p2, p3, p4, p5, p6, p7, p8, p9, a0, an, aT, g180, g180n, tn, t1g, t1l, uo_s, uo_n, up_s, up_n]) rfl rfl (by decide) (by decide) rfl ?_
        try simp (disch := omega) only [t00, p0, p2, p3, p4, p5, p6, p7, p8, p9, a0, an, aT, g180, g180n, tn, t1g, t1l, uo_s, uo_n, up_s, up_n]
        refine e_step (pc' := 52) hK rfl rfl rfl ?_
        refine e_i2c (pc' := 53) hK rfl (by omega) (by omega) rfl ?_
        refine e_cast (pc' := 54) hK rfl (by simp (disch := omega) only [t00, p0, p2, p3, p4, p5, p6, p7, p8, p9, a0, an, aT, g180, g180n, tn, t1g, t1l, uo_s, uo_n, up_s, up_n]) (by omega) (by (try simp (disch := omega) only [t00, p0, p2, p3, p4, p5, p6, p7, p8, p9, a0, an, aT, g180, g180n, tn, t1g, t1l, uo_s, uo_n, up_s, up_n]); omega) (by omega) (by omega) rfl ?_
        refine e_step (pc' := 55) hK rfl rfl rfl ?_
        refine e_step (pc' := 56) hK rfl rfl rfl ?_
        refine e_getI (ci := 0) (k := 1) (pc' := 59) hK rfl (by simp (disch := omega) only [t00, p0, p2, p3, p4, p5, p6, p7, p8, p9, a0, an, aT, g180, g180n, tn, t1g, t1l, uo_s, uo_n, up_s, up_n]) rfl rfl (by decide) (by decide) rfl ?_
        try simp (disch := omega) only [t00, p0, p2, p3, p4, p5, p6, p7, p8, p9, a0, an, aT, g180, g180n, tn, t1g, t1l, uo_s, uo_n, up_s, up_n]
        refine e_step (pc' := 60) hK rfl rfl rfl ?_
        refine e_step (pc' := 61) hK rfl rfl rfl ?_
        refine e_put (ci := 0) (k := 1) (pc' := 64) hK rfl (by simp (disch := omega) only [t00, p0, p2, p3, p4, p5, p6, p7, p8, p9, a0, an, aT, g180, g180n, tn, t1g, t1l, uo_s, uo_n, up_s, up_n]) rfl rfl (by decide) rfl rfl ?_
        refine e_step (pc' := 65) hK rfl rfl rfl ?_
        refine e_getI (ci := 0) (k := 1) (pc' := 68) hK rfl (by simp (disch := omega) only [t00, p0, p2, p3, p4, p5, p6, p7, p8, p9, a0, an, aT, g180, g180n, tn, t1g, t1l, uo_s, uo_n, up_s, up_n]) rfl rfl (by decide) (by decide) rfl ?_
        try simp (disch := omega) only [t00, p0, p2, p3, p4, p5, p6, p7, p8, p9, a0, an, aT, g180, g180n, tn, t1g, t1l, uo_s, uo_n, up_s, up_n]
        refine e_ret hK rfl rfl rfl ?_
        have e9 : sp_append W x = (0, (wN W : Int) + 1, (wN W + 1, mv_up (wF W) (wN W) x, W.2.2)) := by { unfold sp_append; (repeat (first | rw [if_pos (by omega)] | rw [if_neg (by omega)])) }
        rw [e9]
        refine ⟨rfl, rfl, ?_, fun b b0 b1 => by { rw [uo_n (by omega), uo_n (by omega)] }, by dsimp only; omega⟩
        refine hL0.txt (fun b b0 b1 => by rw [uo_n b0, uo_n b1]) ?_ (fun k hk => ?_) ?_
        · simp (disch := omega) only [uo_s, uo_n, up_s, up_n, t00, p0, t1g, t1l]
        · simp (disch := omega) only [uo_s, uo_n, up_s, up_n, t00, p0, t1g, t1l]
        · refine ⟨?_, ?_, ?_, ?_, ?_, by omega, fun k k0 k1 => ?_, fun k k0 k1 => ?_⟩
          · simp (disch := omega) only [uo_s, uo_n, up_s, up_n, t00, p0, t1g, t1l]
          · simp (disch := omega) only [uo_s, uo_n, up_s, up_n, t00, p0, t1g, t1l]
          · simp (disch := omega) only [uo_s, uo_n, up_s, up_n, t00, p0, t1g, t1l]; first | rfl | omega
          · simp (disch := omega) only [uo_s, uo_n, up_s, up_n, t00, p0, t1g, t1l]
          · simp (disch := omega) only [uo_s, uo_n, up_s, up_n, t00, p0, t1g, t1l]
          · by_cases e : k = wN W
            · rw [e]; simp (disch := omega) only [uo_s, uo_n, up_s, up_n]
            · simp (disch := omega) only [uo_s, uo_n, up_s, up_n]; exact hTx.2.2.2.2.2.2.1 k k0 (by omega)
          · by_cases e : k = wN W
            · rw [e, up_s]; omega
            · rw [up_n e]; exact hTx.2.2.2.2.2.2.2 k k0 (by omega)
      · replace hb30 := cq_lt.2.mp hb30
        refine e_thr (E := 1) hK rfl rfl rfl rfl ?_
        have e9 : sp_append W x = (2, 0, W) := by { unfold sp_append; (repeat (first | rw [if_pos (by omega)] | rw [if_neg (by omega)])) }
        rw [e9]
        refine ⟨rfl, rfl, hL0, fun b _ _ => rfl, ?_⟩
        dsimp only
        omega
    · replace hb8 := cq_le.2.mp hb8
      refine e_thr (E := 0) hK rfl rfl rfl rfl ?_
      have e9 : sp_append W x = (1, 0, W) := by { unfold sp_append; (repeat (first | rw [if_pos (by omega)] | rw [if_neg (by omega)])) }
      rw [e9]
      refine ⟨rfl, rfl, hL0, fun b _ _ => rfl, ?_⟩
      dsimp only
      omega
set_option maxRecDepth 10000 in
theorem f_clear {m : Nat} {W : wt} (hL : LtA m h W) : mv_Cl sc q_LT_clearText [(2, 0)] c h (fun r c' h' => r = clr 9 9 (sp_clear W).1 (sp_clear W).2.1 ∧ c' = cck (sp_clear W).1 c ∧ LtA m h' (sp_clear W).2.2 ∧ (∀ b : Int, 264 ≤ b → b ≤ 276 → h' b = h b) ∧ mv_i (sp_clear W).2.1) := by
  have hL0 := hL
  obtain ⟨⟨⟨t00, p0, p2, p3, p4, p5, p6, p7, p8, p9, t14, l14, g14, t252, l252, g252a, g252b, t263, l263⟩, hTx, hA, hH, hS0, hS1, hSv, hm, hgR, hgRn, hgRs⟩, hsc⟩ := hL
  have hA0 := hA
  obtain ⟨⟨s1, s2, a0, -, -, -, -, -, -, -, -, -, -⟩, hB, an, aT, -⟩ := hA
  have bn := hB.1
  have bT := hB.2.1
  have g180 := hH.1.1
  have g180n := hH.2.2.1
  have tn := hTx.2.2.1
  have t1g := hTx.2.2.2.1
  have t1l := hTx.2.2.2.2.1
  have hN := hTx.2.2.2.2.2.1
  show mv_Ev sc 40 0 [(2, 0), (5, 0)] [] c h _
  have hK : (mv_m 40).1 = kc_LT_clearText := rfl
  refine e_step (pc' := 1) hK rfl rfl rfl ?_
  refine e_getI (ci := 0) (k := 1) (pc' := 4) hK rfl (by simp (disch := omega) only [t00, p0, p2, p3, p4, p5, p6, p7, p8, p9, a0, an, aT, g180, g180n, tn, t1g, t1l]) rfl rfl (by decide) (by decide) rfl ?_
  try simp (disch := omega) only [t00, p0, p2, p3, p4, p5, p6, p7, p8, p9, a0, an, aT, g180, g180n, tn, t1g, t1l]
  refine e_step (pc' := 5) hK rfl rfl rfl ?_
  try simp only [List.set_cons_zero, List.set_cons_succ]
  refine e_step (pc' := 6) hK rfl rfl rfl ?_
  refine e_step (pc' := 7) hK rfl rfl rfl ?_
  refine e_put (ci := 0) (k := 1) (pc' := 10) hK rfl (by simp (disch := omega) only [t00, p0, p2, p3, p4, p5, p6, p7, p8, p9, a0, an, aT, g180, g180n, tn, t1g, t1l]) rfl rfl (by decide) rfl rfl ?_
  refine e_step (pc' := 11) hK rfl rfl rfl ?_
  refine e_ret hK rfl rfl rfl ?_
  refine ⟨rfl, rfl, ?_, fun b b0 b1 => uo_n (by omega), by show mv_i (wN W : Int); omega⟩
  refine hL0.txt (fun b b0 b1 => by rw [uo_n b0]) ?_ (fun k hk => ?_) ?_
  · rw [uo_s]; exact t00
  · rw [uo_s]; dsimp only; rw [up_n hk]
  · refine ⟨?_, ?_, ?_, ?_, ?_, by show 0 ≤ 50; decide, fun k k0 k1 => ?_, fun k k0 k1 => ?_⟩
    · rw [uo_s]; exact t00
    · rw [uo_s]; dsimp only; rw [up_n (by decide)]; exact p0
    · rw [uo_s]; dsimp only; rw [up_s]; rfl
    · rw [uo_n (by decide)]; exact t1g
    · rw [uo_n (by decide)]; exact t1l
    · have k1 : k < 0 := k1; omega
    · have k1 : k < 0 := k1; omega
set_option maxRecDepth 10000 in
theorem f_error {m : Nat} {W : wt} (hL : LtA m h W) : mv_Cl sc q_LT_errorPosition [(2, 0)] c h (fun r c' h' => r = clr 9 9 (sp_error W).1 (sp_error W).2.1 ∧ c' = cck (sp_error W).1 c ∧ LtA m h' (sp_error W).2.2 ∧ (∀ b : Int, 264 ≤ b → b ≤ 276 → h' b = h b) ∧ mv_i (sp_error W).2.1) := by
  have hL0 := hL
  obtain ⟨⟨⟨t00, p0, p2, p3, p4, p5, p6, p7, p8, p9, t14, l14, g14, t252, l252, g252a, g252b, t263, l263⟩, hTx, hA, hH, hS0, hS1, hSv, hm, hgR, hgRn, hgRs⟩, hsc⟩ := hL
  have hA0 := hA
  obtain ⟨⟨s1, s2, a0, -, -, -, -, -, -, -, -, -, -⟩, hB, an, aT, -⟩ := hA
  have bn := hB.1
  have bT := hB.2.1
  have g180 := hH.1.1
  have g180n := hH.2.2.1
  have tn := hTx.2.2.1
  have t1g := hTx.2.2.2.1
  have t1l := hTx.2.2.2.2.1
  have hN := hTx.2.2.2.2.2.1
  show mv_Ev sc 41 0 [(2, 0)] [] c h _
  have hK : (mv_m 41).1 = kc_LT_errorPosition := rfl
  refine e_step (pc' := 1) hK rfl rfl rfl ?_
  refine e_step (pc' := 2) hK rfl rfl rfl ?_
  refine e_getR (ci := 0) (k := 2) (pc' := 5) hK rfl (by simp (disch := omega) only [t00, p0, p2, p3, p4, p5, p6, p7, p8, p9, a0, an, aT, g180, g180n]) rfl rfl (by decide) (by decide) (by (try simp (disch := omega) only [t00, p0, p2, p3, p4, p5, p6, p7, p8, p9, a0, an, aT, g180, g180n]); omega) rfl ?_
  try simp (disch := omega) only [t00, p0, p2, p3, p4, p5, p6, p7, p8, p9, a0, an, aT, g180, g180n]
  refine e_cQV2 (z := 42) hK rfl rfl (by first | (simp (disch := omega) only [t00, p0, p2, p3, p4, p5, p6, p7, p8, p9, a0, an, aT, g180, g180n]; rfl) | (show _ = 2; assumption) | (show _ = 1; assumption) | (show _ = 0; assumption) | (show _ = 3; assumption) | (show _ = 4; assumption)) rfl (Nat.le_of_ble_eq_true rfl) (Nat.le_of_ble_eq_true rfl) (c_read hTx hsc.1 (by decide)) ?_
  rintro _ _ hr ⟨rfl, rfl, hln, hlw, hfl⟩
  refine ⟨by show (0 : Nat) ≠ 4; decide, ?_⟩
  rw [if_neg (by show ¬ (0 : Nat) = 3; decide)]
  try dsimp only
  have hLr := hL0.rd hlw hfl
  have or0 := hfl 0 (by omega)
  have or165 : (hr 165).1 = 2 := by { rw [hfl 165 (by omega)]; exact a0 }
  have ern := er_b (wN W) (wF W)
  have or165n : (hr 165).2.2 5 = gn (wA W) := by { rw [hfl 165 (by omega)]; exact an }
  have or8 := hlw.2.1
  show mv_Ev _ _ 8 _ _ _ _ _
  refine e_ret hK rfl rfl rfl ?_
  exact ⟨rfl, rfl, hLr, fun b b0 b1 => hfl b (by omega), by show mv_i (er _ _); omega⟩
set_option maxRecDepth 10000 in
theorem f_which {m : Nat} {W : wt} (hL : LtA m h W) : mv_Cl sc q_LT_which [(2, 0)] c h (fun r c' h' => r = clr 9 9 (sp_which W).1 (sp_which W).2.1 ∧ c' = cck (sp_which W).1 c ∧ LtA m h' (sp_which W).2.2 ∧ (∀ b : Int, 264 ≤ b → b ≤ 276 → h' b = h b) ∧ mv_i (sp_which W).2.1) := by
  have hL0 := hL
  obtain ⟨⟨⟨t00, p0, p2, p3, p4, p5, p6, p7, p8, p9, t14, l14, g14, t252, l252, g252a, g252b, t263, l263⟩, hTx, hA, hH, hS0, hS1, hSv, hm, hgR, hgRn, hgRs⟩, hsc⟩ := hL
  have hA0 := hA
  obtain ⟨⟨s1, s2, a0, -, -, -, -, -, -, -, -, -, -⟩, hB, an, aT, -⟩ := hA
  have bn := hB.1
  have bT := hB.2.1
  have g180 := hH.1.1
  have g180n := hH.2.2.1
  have tn := hTx.2.2.1
  have t1g := hTx.2.2.2.1
  have t1l := hTx.2.2.2.2.1
  have hN := hTx.2.2.2.2.2.1
  show mv_Ev sc 47 0 [(2, 0)] [] c h _
  have hK : (mv_m 47).1 = kc_LT_which := rfl
  refine e_step (pc' := 1) hK rfl rfl rfl ?_
  refine e_step (pc' := 2) hK rfl rfl rfl ?_
  refine e_getR (ci := 0) (k := 2) (pc' := 5) hK rfl (by simp (disch := omega) only [t00, p0, p2, p3, p4, p5, p6, p7, p8, p9, a0, an, aT, g180, g180n]) rfl rfl (by decide) (by decide) (by (try simp (disch := omega) only [t00, p0, p2, p3, p4, p5, p6, p7, p8, p9, a0, an, aT, g180, g180n]); omega) rfl ?_
  try simp (disch := omega) only [t00, p0, p2, p3, p4, p5, p6, p7, p8, p9, a0, an, aT, g180, g180n]
  refine e_cQV2 (z := 42) hK rfl rfl (by first | (simp (disch := omega) only [t00, p0, p2, p3, p4, p5, p6, p7, p8, p9, a0, an, aT, g180, g180n]; rfl) | (show _ = 2; assumption) | (show _ = 1; assumption) | (show _ = 0; assumption) | (show _ = 3; assumption) | (show _ = 4; assumption)) rfl (Nat.le_of_ble_eq_true rfl) (Nat.le_of_ble_eq_true rfl) (c_read hTx hsc.1 (by decide)) ?_
  rintro _ _ hr ⟨rfl, rfl, hln, hlw, hfl⟩
  refine ⟨by show (0 : Nat) ≠ 4; decide, ?_⟩
  rw [if_neg (by show ¬ (0 : Nat) = 3; decide)]
  try dsimp only
  have hLr := hL0.rd hlw hfl
  have or0 := hfl 0 (by omega)
  have or165 : (hr 165).1 = 2 := by { rw [hfl 165 (by omega)]; exact a0 }
  have ern := er_b (wN W) (wF W)
  have or165n : (hr 165).2.2 5 = gn (wA W) := by { rw [hfl 165 (by omega)]; exact an }
  have or8 := hlw.2.1
  show mv_Ev _ _ 8 _ _ _ _ _
  refine e_step (pc' := 11) hK rfl rfl rfl ?_
  refine e_icmp (t := 28) (pc' := 14) hK rfl (by omega) (by omega) (by decide) rfl (fun hb11 => ?_) (fun hb11 => ?_)
  · replace hb11 := cq_ne.1.mp hb11
    refine e_step (pc' := 31) hK rfl rfl rfl ?_
    refine e_ret hK rfl rfl rfl ?_
    refine ⟨?_, rfl, hLr, fun b b0 b1 => hfl b (by omega), ?_⟩
    · show (0, _) = (0, if _ then _ else _); rw [if_neg hb11]
    · show mv_i (if _ then _ else _); rw [if_neg hb11]; omega
  · replace hb11 := cq_ne.2.mp hb11
    have hokx : xok (wN W, wF W) := (er_ok hb11).1
    have hx8 := LnX_tg (hln hb11) ⟨by decide, Or.inl (by decide)⟩
    refine e_step (pc' := 15) hK rfl rfl rfl ?_
    refine e_getR (ci := 0) (k := 4) (pc' := 18) hK rfl (by simp (disch := omega) only [t00, p0, p2, p3, p4, p5, p6, p7, p8, p9, a0, an, aT, g180, g180n, or0, or165, or165n, or8]) rfl rfl (by decide) (by decide) (by (try simp (disch := omega) only [t00, p0, p2, p3, p4, p5, p6, p7, p8, p9, a0, an, aT, g180, g180n, or0, or165, or165n, or8]); omega) rfl ?_
    try simp (disch := omega) only [t00, p0, p2, p3, p4, p5, p6, p7, p8, p9, a0, an, aT, g180, g180n, or0, or165, or165n, or8]
    refine e_step (pc' := 19) hK rfl rfl rfl ?_
    refine e_getR (ci := 0) (k := 2) (pc' := 22) hK rfl (by simp (disch := omega) only [t00, p0, p2, p3, p4, p5, p6, p7, p8, p9, a0, an, aT, g180, g180n, or0, or165, or165n, or8]) rfl rfl (by decide) (by decide) (by (try simp (disch := omega) only [t00, p0, p2, p3, p4, p5, p6, p7, p8, p9, a0, an, aT, g180, g180n, or0, or165, or165n, or8]); omega) rfl ?_
    try simp (disch := omega) only [t00, p0, p2, p3, p4, p5, p6, p7, p8, p9, a0, an, aT, g180, g180n, or0, or165, or165n, or8]
    refine e_cRV2 (z := 23) (pc' := 25) hK rfl rfl (by first | (simp (disch := omega) only [t00, p0, p2, p3, p4, p5, p6, p7, p8, p9, a0, an, aT, g180, g180n, or0, or165, or165n, or8]; rfl) | (show _ = 2; assumption) | (show _ = 1; assumption) | (show _ = 0; assumption) | (show _ = 3; assumption) | (show _ = 4; assumption)) rfl (Nat.le_of_ble_eq_true rfl) (Nat.le_of_ble_eq_true rfl) (c_firstFit hLr.1.2.2.1 hx8) (by decide) rfl ?_
    try simp (disch := omega) only [t00, p0, p2, p3, p4, p5, p6, p7, p8, p9, a0, an, aT, g180, g180n, or0, or165, or165n, or8]
    refine e_goto (t := 31) hK rfl (by decide) ?_
    refine e_ret hK rfl rfl rfl ?_
    have hgb := gff_b (wA W) (wN W, wF W)
    refine ⟨?_, rfl, hLr, fun b b0 b1 => hfl b (by omega), ?_⟩
    · show (0, _) = (0, if _ then _ else _); rw [if_pos hb11, gff_tg hokx]
    · show mv_i (if _ then _ else _); rw [if_pos hb11]; omega
set_option maxRecDepth 10000 in
theorem f_cost {m : Nat} {W : wt} (hL : LtA m h W) : mv_Cl sc q_LT_wouldCost [(2, 0)] c h (fun r c' h' => r = clr 9 9 (sp_cost W).1 (sp_cost W).2.1 ∧ c' = cck (sp_cost W).1 c ∧ LtA m h' (sp_cost W).2.2 ∧ (∀ b : Int, 264 ≤ b → b ≤ 276 → h' b = h b) ∧ mv_i (sp_cost W).2.1) := by
  have hL0 := hL
  obtain ⟨⟨⟨t00, p0, p2, p3, p4, p5, p6, p7, p8, p9, t14, l14, g14, t252, l252, g252a, g252b, t263, l263⟩, hTx, hA, hH, hS0, hS1, hSv, hm, hgR, hgRn, hgRs⟩, hsc⟩ := hL
  have hA0 := hA
  obtain ⟨⟨s1, s2, a0, -, -, -, -, -, -, -, -, -, -⟩, hB, an, aT, -⟩ := hA
  have bn := hB.1
  have bT := hB.2.1
  have g180 := hH.1.1
  have g180n := hH.2.2.1
  have tn := hTx.2.2.1
  have t1g := hTx.2.2.2.1
  have t1l := hTx.2.2.2.2.1
  have hN := hTx.2.2.2.2.2.1
  show mv_Ev sc 48 0 [(2, 0)] [] c h _
  have hK : (mv_m 48).1 = kc_LT_wouldCost := rfl
  refine e_step (pc' := 1) hK rfl rfl rfl ?_
  refine e_step (pc' := 2) hK rfl rfl rfl ?_
  refine e_getR (ci := 0) (k := 2) (pc' := 5) hK rfl (by simp (disch := omega) only [t00, p0, p2, p3, p4, p5, p6, p7, p8, p9, a0, an, aT, g180, g180n]) rfl rfl (by decide) (by decide) (by (try simp (disch := omega) only [t00, p0, p2, p3, p4, p5, p6, p7, p8, p9, a0, an, aT, g180, g180n]); omega) rfl ?_
  try simp (disch := omega) only [t00, p0, p2, p3, p4, p5, p6, p7, p8, p9, a0, an, aT, g180, g180n]
  refine e_cQV2 (z := 42) hK rfl rfl (by first | (simp (disch := omega) only [t00, p0, p2, p3, p4, p5, p6, p7, p8, p9, a0, an, aT, g180, g180n]; rfl) | (show _ = 2; assumption) | (show _ = 1; assumption) | (show _ = 0; assumption) | (show _ = 3; assumption) | (show _ = 4; assumption)) rfl (Nat.le_of_ble_eq_true rfl) (Nat.le_of_ble_eq_true rfl) (c_read hTx hsc.1 (by decide)) ?_
  rintro _ _ hr ⟨rfl, rfl, hln, hlw, hfl⟩
  refine ⟨by show (0 : Nat) ≠ 4; decide, ?_⟩
  rw [if_neg (by show ¬ (0 : Nat) = 3; decide)]
  try dsimp only
  have hLr := hL0.rd hlw hfl
  have or0 := hfl 0 (by omega)
  have or165 : (hr 165).1 = 2 := by { rw [hfl 165 (by omega)]; exact a0 }
  have ern := er_b (wN W) (wF W)
  have or165n : (hr 165).2.2 5 = gn (wA W) := by { rw [hfl 165 (by omega)]; exact an }
  have or8 := hlw.2.1
  show mv_Ev _ _ 8 _ _ _ _ _
  refine e_step (pc' := 11) hK rfl rfl rfl ?_
  refine e_icmp (t := 18) (pc' := 14) hK rfl (by omega) (by omega) (by decide) rfl (fun hb11 => ?_) (fun hb11 => ?_)
  · replace hb11 := cq_eq.1.mp hb11
    have hokx : xok (wN W, wF W) := (er_ok hb11).1
    have hx8 := LnX_tg (hln hb11) ⟨by decide, Or.inl (by decide)⟩
    refine e_step (pc' := 19) hK rfl rfl rfl ?_
    refine e_getR (ci := 0) (k := 4) (pc' := 22) hK rfl (by simp (disch := omega) only [t00, p0, p2, p3, p4, p5, p6, p7, p8, p9, a0, an, aT, g180, g180n, or0, or165, or165n, or8]) rfl rfl (by decide) (by decide) (by (try simp (disch := omega) only [t00, p0, p2, p3, p4, p5, p6, p7, p8, p9, a0, an, aT, g180, g180n, or0, or165, or165n, or8]); omega) rfl ?_
    try simp (disch := omega) only [t00, p0, p2, p3, p4, p5, p6, p7, p8, p9, a0, an, aT, g180, g180n, or0, or165, or165n, or8]
    refine e_step (pc' := 23) hK rfl rfl rfl ?_
    refine e_getR (ci := 0) (k := 2) (pc' := 26) hK rfl (by simp (disch := omega) only [t00, p0, p2, p3, p4, p5, p6, p7, p8, p9, a0, an, aT, g180, g180n, or0, or165, or165n, or8]) rfl rfl (by decide) (by decide) (by (try simp (disch := omega) only [t00, p0, p2, p3, p4, p5, p6, p7, p8, p9, a0, an, aT, g180, g180n, or0, or165, or165n, or8]); omega) rfl ?_
    try simp (disch := omega) only [t00, p0, p2, p3, p4, p5, p6, p7, p8, p9, a0, an, aT, g180, g180n, or0, or165, or165n, or8]
    refine e_step (pc' := 27) hK rfl rfl rfl ?_
    refine e_getR (ci := 0) (k := 4) (pc' := 30) hK rfl (by simp (disch := omega) only [t00, p0, p2, p3, p4, p5, p6, p7, p8, p9, a0, an, aT, g180, g180n, or0, or165, or165n, or8]) rfl rfl (by decide) (by decide) (by (try simp (disch := omega) only [t00, p0, p2, p3, p4, p5, p6, p7, p8, p9, a0, an, aT, g180, g180n, or0, or165, or165n, or8]); omega) rfl ?_
    try simp (disch := omega) only [t00, p0, p2, p3, p4, p5, p6, p7, p8, p9, a0, an, aT, g180, g180n, or0, or165, or165n, or8]
    refine e_step (pc' := 31) hK rfl rfl rfl ?_
    refine e_getR (ci := 0) (k := 2) (pc' := 34) hK rfl (by simp (disch := omega) only [t00, p0, p2, p3, p4, p5, p6, p7, p8, p9, a0, an, aT, g180, g180n, or0, or165, or165n, or8]) rfl rfl (by decide) (by decide) (by (try simp (disch := omega) only [t00, p0, p2, p3, p4, p5, p6, p7, p8, p9, a0, an, aT, g180, g180n, or0, or165, or165n, or8]); omega) rfl ?_
    try simp (disch := omega) only [t00, p0, p2, p3, p4, p5, p6, p7, p8, p9, a0, an, aT, g180, g180n, or0, or165, or165n, or8]
    refine e_cRV2 (z := 23) (pc' := 37) hK rfl rfl (by first | (simp (disch := omega) only [t00, p0, p2, p3, p4, p5, p6, p7, p8, p9, a0, an, aT, g180, g180n, or0, or165, or165n, or8]; rfl) | (show _ = 2; assumption) | (show _ = 1; assumption) | (show _ = 0; assumption) | (show _ = 3; assumption) | (show _ = 4; assumption)) rfl (Nat.le_of_ble_eq_true rfl) (Nat.le_of_ble_eq_true rfl) (c_firstFit hLr.1.2.2.1 hx8) (by decide) rfl ?_
    try simp (disch := omega) only [t00, p0, p2, p3, p4, p5, p6, p7, p8, p9, a0, an, aT, g180, g180n, or0, or165, or165n, or8]
    refine e_step (pc' := 38) hK rfl rfl rfl ?_
    refine e_getR (ci := 0) (k := 4) (pc' := 41) hK rfl (by simp (disch := omega) only [t00, p0, p2, p3, p4, p5, p6, p7, p8, p9, a0, an, aT, g180, g180n, or0, or165, or165n, or8]) rfl rfl (by decide) (by decide) (by (try simp (disch := omega) only [t00, p0, p2, p3, p4, p5, p6, p7, p8, p9, a0, an, aT, g180, g180n, or0, or165, or165n, or8]); omega) rfl ?_
    try simp (disch := omega) only [t00, p0, p2, p3, p4, p5, p6, p7, p8, p9, a0, an, aT, g180, g180n, or0, or165, or165n, or8]
    refine e_getI (ci := 2) (k := 5) (pc' := 44) hK rfl (by simp (disch := omega) only [t00, p0, p2, p3, p4, p5, p6, p7, p8, p9, a0, an, aT, g180, g180n, or0, or165, or165n, or8]) rfl rfl (by decide) (by decide) rfl ?_
    try simp (disch := omega) only [t00, p0, p2, p3, p4, p5, p6, p7, p8, p9, a0, an, aT, g180, g180n, or0, or165, or165n, or8]
    refine e_cRS4 (z := 78) (pc' := 47) hK rfl rfl rfl (Nat.le_of_ble_eq_true rfl) (Nat.le_of_ble_eq_true rfl) (c_ofLine hLr.1.2.2.1 hx8 _ _ (by have := gff_b (wA W) (xtg (wN W) (wF W) 8); omega) (by omega)) (by decide) rfl ?_
    try simp (disch := omega) only [t00, p0, p2, p3, p4, p5, p6, p7, p8, p9, a0, an, aT, g180, g180n, or0, or165, or165n, or8]
    refine e_ret hK rfl rfl rfl ?_
    have hgb := col_b hB hokx (gff (wA W) (wN W, wF W)) (gn (wA W))
    refine ⟨?_, rfl, hLr, fun b b0 b1 => hfl b (by omega), ?_⟩
    · show (0, _) = (0, if _ then _ else _); rw [if_pos hb11, gff_tg hokx, col_tg hokx]
    · show mv_i (if _ then _ else _); rw [if_pos hb11]; omega
  · replace hb11 := cq_eq.2.mp hb11
    refine e_step (pc' := 17) hK rfl rfl rfl ?_
    refine e_ret hK rfl rfl rfl ?_
    refine ⟨?_, rfl, hLr, fun b b0 b1 => hfl b (by omega), ?_⟩
    · show (0, _) = (0, if _ then _ else _); rw [if_neg hb11]
    · show mv_i (if _ then _ else _); rw [if_neg hb11]; omega
set_option maxRecDepth 10000 in
theorem f_learn {m : Nat} {W : wt} (hL : LtA m h W) : mv_Cl sc q_LT_learn [(2, 0)] c h (fun r c' h' => r = clr 9 9 (sp_learn W).1 (sp_learn W).2.1 ∧ c' = cck (sp_learn W).1 c ∧ LtA m h' (sp_learn W).2.2 ∧ (∀ b : Int, 264 ≤ b → b ≤ 276 → h' b = h b) ∧ mv_i (sp_learn W).2.1) := by
  have hL0 := hL
  obtain ⟨⟨⟨t00, p0, p2, p3, p4, p5, p6, p7, p8, p9, t14, l14, g14, t252, l252, g252a, g252b, t263, l263⟩, hTx, hA, hH, hS0, hS1, hSv, hm, hgR, hgRn, hgRs⟩, hsc⟩ := hL
  have hA0 := hA
  obtain ⟨⟨s1, s2, a0, -, -, -, -, -, -, -, -, -, -⟩, hB, an, aT, -⟩ := hA
  have bn := hB.1
  have bT := hB.2.1
  have g180 := hH.1.1
  have g180n := hH.2.2.1
  have tn := hTx.2.2.1
  have t1g := hTx.2.2.2.1
  have t1l := hTx.2.2.2.2.1
  have hN := hTx.2.2.2.2.2.1
  show mv_Ev sc 44 0 [(2, 0)] [] c h _
  have hK : (mv_m 44).1 = kc_LT_learn := rfl
  refine e_step (pc' := 1) hK rfl rfl rfl ?_
  refine e_getR (ci := 0) (k := 7) (pc' := 4) hK rfl (by simp (disch := omega) only [t00, p0, p2, p3, p4, p5, p6, p7, p8, p9, a0, an, aT, g180, g180n]) rfl rfl (by decide) (by decide) (by (try simp (disch := omega) only [t00, p0, p2, p3, p4, p5, p6, p7, p8, p9, a0, an, aT, g180, g180n]); omega) rfl ?_
  try simp (disch := omega) only [t00, p0, p2, p3, p4, p5, p6, p7, p8, p9, a0, an, aT, g180, g180n]
  refine e_step (pc' := 5) hK rfl rfl rfl ?_
  refine e_getR (ci := 0) (k := 4) (pc' := 8) hK rfl (by simp (disch := omega) only [t00, p0, p2, p3, p4, p5, p6, p7, p8, p9, a0, an, aT, g180, g180n]) rfl rfl (by decide) (by decide) (by (try simp (disch := omega) only [t00, p0, p2, p3, p4, p5, p6, p7, p8, p9, a0, an, aT, g180, g180n]); omega) rfl ?_
  try simp (disch := omega) only [t00, p0, p2, p3, p4, p5, p6, p7, p8, p9, a0, an, aT, g180, g180n]
  refine e_cQV2 (z := 35) hK rfl rfl (by first | (simp (disch := omega) only [t00, p0, p2, p3, p4, p5, p6, p7, p8, p9, a0, an, aT, g180, g180n]; rfl) | (show _ = 2; assumption) | (show _ = 1; assumption) | (show _ = 0; assumption) | (show _ = 3; assumption) | (show _ = 4; assumption)) rfl (Nat.le_of_ble_eq_true rfl) (Nat.le_of_ble_eq_true rfl) (c_remember hH hA0) ?_
  rintro _ _ h1 ⟨rfl, rfl, hH1, hf1⟩
  refine ⟨by decide, ?_⟩
  rw [if_pos rfl]
  have hA1 := hL0.act' hf1
  have o0 := hf1 0 (by omega)
  have o165 : (h1 165).1 = 2 := by { rw [hf1 165 (by omega)]; exact a0 }
  show mv_Ev _ _ 11 _ _ _ _ _
  refine e_step (pc' := 12) hK rfl rfl rfl ?_
  refine e_getR (ci := 0) (k := 4) (pc' := 15) hK rfl (by simp (disch := omega) only [t00, p0, p2, p3, p4, p5, p6, p7, p8, p9, a0, an, aT, g180, g180n, o0, o165]) rfl rfl (by decide) (by decide) (by (try simp (disch := omega) only [t00, p0, p2, p3, p4, p5, p6, p7, p8, p9, a0, an, aT, g180, g180n, o0, o165]); omega) rfl ?_
  try simp (disch := omega) only [t00, p0, p2, p3, p4, p5, p6, p7, p8, p9, a0, an, aT, g180, g180n, o0, o165]
  refine e_cQS1 (z := 98) hK rfl rfl rfl (Nat.le_of_ble_eq_true rfl) (Nat.le_of_ble_eq_true rfl) (c_learnFirst hA1) ?_
  rintro _ _ h2 ⟨rfl, rfl, hs2, hf2⟩
  refine ⟨by show (0 : Nat) ≠ 4; decide, ?_⟩
  rw [if_neg (by show ¬ (0 : Nat) = 3; decide)]
  try dsimp only
  show mv_Ev _ _ 18 _ _ _ _ _
  refine e_ret hK rfl rfl rfl ?_
  exact ⟨rfl, rfl, hL0.act hH1 hf1 hs2 hf2 (gR_gle hgR), fun b b0 b1 => (hf2 b (by omega)).trans (hf1 b (by omega)), by { have := glv_b hB; show mv_i (glv _); omega }⟩
set_option maxRecDepth 10000 in
theorem f_learnAll {m : Nat} {W : wt} (hL : LtA m h W) : mv_Cl sc q_LT_learnAll [(2, 0)] c h (fun r c' h' => r = clr 9 9 (sp_learnAll W).1 (sp_learnAll W).2.1 ∧ c' = cck (sp_learnAll W).1 c ∧ LtA m h' (sp_learnAll W).2.2 ∧ (∀ b : Int, 264 ≤ b → b ≤ 276 → h' b = h b) ∧ mv_i (sp_learnAll W).2.1) := by
  have hL0 := hL
  obtain ⟨⟨⟨t00, p0, p2, p3, p4, p5, p6, p7, p8, p9, t14, l14, g14, t252, l252, g252a, g252b, t263, l263⟩, hTx, hA, hH, hS0, hS1, hSv, hm, hgR, hgRn, hgRs⟩, hsc⟩ := hL
  have hA0 := hA
  obtain ⟨⟨s1, s2, a0, -, -, -, -, -, -, -, -, -, -⟩, hB, an, aT, -⟩ := hA
  have bn := hB.1
  have bT := hB.2.1
  have g180 := hH.1.1
  have g180n := hH.2.2.1
  have tn := hTx.2.2.1
  have t1g := hTx.2.2.2.1
  have t1l := hTx.2.2.2.2.1
  have hN := hTx.2.2.2.2.2.1
  show mv_Ev sc 46 0 [(2, 0)] [] c h _
  have hK : (mv_m 46).1 = kc_LT_learnAll := rfl
  refine e_step (pc' := 1) hK rfl rfl rfl ?_
  refine e_getR (ci := 0) (k := 7) (pc' := 4) hK rfl (by simp (disch := omega) only [t00, p0, p2, p3, p4, p5, p6, p7, p8, p9, a0, an, aT, g180, g180n]) rfl rfl (by decide) (by decide) (by (try simp (disch := omega) only [t00, p0, p2, p3, p4, p5, p6, p7, p8, p9, a0, an, aT, g180, g180n]); omega) rfl ?_
  try simp (disch := omega) only [t00, p0, p2, p3, p4, p5, p6, p7, p8, p9, a0, an, aT, g180, g180n]
  refine e_step (pc' := 5) hK rfl rfl rfl ?_
  refine e_getR (ci := 0) (k := 4) (pc' := 8) hK rfl (by simp (disch := omega) only [t00, p0, p2, p3, p4, p5, p6, p7, p8, p9, a0, an, aT, g180, g180n]) rfl rfl (by decide) (by decide) (by (try simp (disch := omega) only [t00, p0, p2, p3, p4, p5, p6, p7, p8, p9, a0, an, aT, g180, g180n]); omega) rfl ?_
  try simp (disch := omega) only [t00, p0, p2, p3, p4, p5, p6, p7, p8, p9, a0, an, aT, g180, g180n]
  refine e_cQV2 (z := 35) hK rfl rfl (by first | (simp (disch := omega) only [t00, p0, p2, p3, p4, p5, p6, p7, p8, p9, a0, an, aT, g180, g180n]; rfl) | (show _ = 2; assumption) | (show _ = 1; assumption) | (show _ = 0; assumption) | (show _ = 3; assumption) | (show _ = 4; assumption)) rfl (Nat.le_of_ble_eq_true rfl) (Nat.le_of_ble_eq_true rfl) (c_remember hH hA0) ?_
  rintro _ _ h1 ⟨rfl, rfl, hH1, hf1⟩
  refine ⟨by decide, ?_⟩
  rw [if_pos rfl]
  have hA1 := hL0.act' hf1
  have o0 := hf1 0 (by omega)
  have o165 : (h1 165).1 = 2 := by { rw [hf1 165 (by omega)]; exact a0 }
  show mv_Ev _ _ 11 _ _ _ _ _
  refine e_step (pc' := 12) hK rfl rfl rfl ?_
  refine e_getR (ci := 0) (k := 4) (pc' := 15) hK rfl (by simp (disch := omega) only [t00, p0, p2, p3, p4, p5, p6, p7, p8, p9, a0, an, aT, g180, g180n, o0, o165]) rfl rfl (by decide) (by decide) (by (try simp (disch := omega) only [t00, p0, p2, p3, p4, p5, p6, p7, p8, p9, a0, an, aT, g180, g180n, o0, o165]); omega) rfl ?_
  try simp (disch := omega) only [t00, p0, p2, p3, p4, p5, p6, p7, p8, p9, a0, an, aT, g180, g180n, o0, o165]
  refine e_cQS1 (z := 100) hK rfl rfl rfl (Nat.le_of_ble_eq_true rfl) (Nat.le_of_ble_eq_true rfl) (c_learnAll hA1) ?_
  rintro _ _ h2 ⟨rfl, rfl, hs2, hf2⟩
  refine ⟨by decide, ?_⟩
  rw [if_pos rfl]
  have oo0 : h2 0 = h1 0 := hf2 0 (by omega)
  have n2 := hs2.2.2.1
  have T2 := hs2.2.2.2.1
  have tg2 := hs2.1.2.2.1
  show mv_Ev _ _ 18 _ _ _ _ _
  refine e_step (pc' := 19) hK rfl rfl rfl ?_
  refine e_getR (ci := 0) (k := 4) (pc' := 22) hK rfl (by simp (disch := omega) only [t00, p0, p2, p3, p4, p5, p6, p7, p8, p9, a0, an, aT, g180, g180n, o0, o165, oo0, o0, n2, T2, tg2]) rfl rfl (by decide) (by decide) (by (try simp (disch := omega) only [t00, p0, p2, p3, p4, p5, p6, p7, p8, p9, a0, an, aT, g180, g180n, o0, o165, oo0, o0, n2, T2, tg2]); omega) rfl ?_
  try simp (disch := omega) only [t00, p0, p2, p3, p4, p5, p6, p7, p8, p9, a0, an, aT, g180, g180n, o0, o165, oo0, o0, n2, T2, tg2]
  refine e_getI (ci := 2) (k := 6) (pc' := 25) hK rfl (by simp (disch := omega) only [t00, p0, p2, p3, p4, p5, p6, p7, p8, p9, a0, an, aT, g180, g180n, o0, o165, oo0, o0, n2, T2, tg2]) rfl rfl (by decide) (by decide) rfl ?_
  try simp (disch := omega) only [t00, p0, p2, p3, p4, p5, p6, p7, p8, p9, a0, an, aT, g180, g180n, o0, o165, oo0, o0, n2, T2, tg2]
  refine e_ret hK rfl rfl rfl ?_
  exact ⟨rfl, rfl, hL0.act hH1 hf1 hs2 hf2 (gR_gall 12 hgR), fun b b0 b1 => (hf2 b (by omega)).trans (hf1 b (by omega)), by { have := hs2.2.1.2.1; show mv_i (gT _ : Int); omega }⟩
set_option maxRecDepth 10000 in
theorem f_remove {m : Nat} {W : wt} (hL : LtA m h W) (i : Int) (hi : mv_i i) : mv_Cl sc q_LT_remove [(2, 0), (0, i)] c h (fun r c' h' => r = clr 2 9 (sp_remove W i).1 (sp_remove W i).2.1 ∧ c' = cck (sp_remove W i).1 c ∧ LtA m h' (sp_remove W i).2.2 ∧ (∀ b : Int, 264 ≤ b → b ≤ 276 → h' b = h b) ∧ mv_i (sp_remove W i).2.1) := by
  have hL0 := hL
  obtain ⟨⟨⟨t00, p0, p2, p3, p4, p5, p6, p7, p8, p9, t14, l14, g14, t252, l252, g252a, g252b, t263, l263⟩, hTx, hA, hH, hS0, hS1, hSv, hm, hgR, hgRn, hgRs⟩, hsc⟩ := hL
  have hA0 := hA
  obtain ⟨⟨s1, s2, a0, -, -, -, -, -, -, -, -, -, -⟩, hB, an, aT, -⟩ := hA
  have bn := hB.1
  have bT := hB.2.1
  have g180 := hH.1.1
  have g180n := hH.2.2.1
  have tn := hTx.2.2.1
  have t1g := hTx.2.2.2.1
  have t1l := hTx.2.2.2.2.1
  have hN := hTx.2.2.2.2.2.1
  show mv_Ev sc 63 0 [(2, 0), (0, i)] [] c h _
  have hK : (mv_m 63).1 = kc_LT_remove := rfl
  refine e_step (pc' := 1) hK rfl rfl rfl ?_
  refine e_step (pc' := 2) hK rfl rfl rfl ?_
  refine e_callX (z := 53) (vs := [(2, 0), (0, i)]) (r := []) hK rfl rfl rfl rfl rfl (Nat.le_of_ble_eq_true rfl) (decide_eq_true (by first | (simp (disch := omega) only [t00, p0, p2, p3, p4, p5, p6, p7, p8, p9, a0, an, aT, g180, g180n]; rfl) | (show _ = 2; assumption) | (show _ = 1; assumption) | (show _ = 0; assumption))) (Nat.le_of_ble_eq_true rfl) (by decide) rfl rfl rfl (f_checkLine hL0 i hi) ?_
  rintro _ _ _ ⟨rfl, hq⟩
  rcases hq with ⟨hx2, rfl, rfl⟩ | ⟨hx2, rfl, rfl⟩
  rotate_left
  · refine Or.inr ⟨rfl, by decide, by decide, ?_⟩
    have e9 : sp_remove W i = (1, 0, W) := by { unfold sp_remove; (repeat (first | rw [if_pos (by omega)] | rw [if_neg (by omega)])) }
    rw [e9]
    refine ⟨rfl, rfl, hL0, fun b _ _ => rfl, ?_⟩
    dsimp only
    omega
  refine Or.inl ⟨by decide, ?_⟩
  rw [if_pos rfl]
  show mv_Ev _ _ 5 _ _ _ _ _
  refine e_step (pc' := 6) hK rfl rfl rfl ?_
  refine e_getR (ci := 0) (k := 7) (pc' := 9) hK rfl (by simp (disch := omega) only [t00, p0, p2, p3, p4, p5, p6, p7, p8, p9, a0, an, aT, g180, g180n]) rfl rfl (by decide) (by decide) (by (try simp (disch := omega) only [t00, p0, p2, p3, p4, p5, p6, p7, p8, p9, a0, an, aT, g180, g180n]); omega) rfl ?_
  try simp (disch := omega) only [t00, p0, p2, p3, p4, p5, p6, p7, p8, p9, a0, an, aT, g180, g180n]
  refine e_step (pc' := 10) hK rfl rfl rfl ?_
  refine e_getR (ci := 0) (k := 4) (pc' := 13) hK rfl (by simp (disch := omega) only [t00, p0, p2, p3, p4, p5, p6, p7, p8, p9, a0, an, aT, g180, g180n]) rfl rfl (by decide) (by decide) (by (try simp (disch := omega) only [t00, p0, p2, p3, p4, p5, p6, p7, p8, p9, a0, an, aT, g180, g180n]); omega) rfl ?_
  try simp (disch := omega) only [t00, p0, p2, p3, p4, p5, p6, p7, p8, p9, a0, an, aT, g180, g180n]
  refine e_cQV2 (z := 35) hK rfl rfl (by first | (simp (disch := omega) only [t00, p0, p2, p3, p4, p5, p6, p7, p8, p9, a0, an, aT, g180, g180n]; rfl) | (show _ = 2; assumption) | (show _ = 1; assumption) | (show _ = 0; assumption) | (show _ = 3; assumption) | (show _ = 4; assumption)) rfl (Nat.le_of_ble_eq_true rfl) (Nat.le_of_ble_eq_true rfl) (c_remember hH hA0) ?_
  rintro _ _ h1 ⟨rfl, rfl, hH1, hf1⟩
  refine ⟨by decide, ?_⟩
  rw [if_pos rfl]
  have hA1 := hL0.act' hf1
  have o0 := hf1 0 (by omega)
  have o165 : (h1 165).1 = 2 := by { rw [hf1 165 (by omega)]; exact a0 }
  show mv_Ev _ _ 16 _ _ _ _ _
  refine e_step (pc' := 17) hK rfl rfl rfl ?_
  refine e_getR (ci := 0) (k := 4) (pc' := 20) hK rfl (by simp (disch := omega) only [t00, p0, p2, p3, p4, p5, p6, p7, p8, p9, a0, an, aT, g180, g180n, o0, o165]) rfl rfl (by decide) (by decide) (by (try simp (disch := omega) only [t00, p0, p2, p3, p4, p5, p6, p7, p8, p9, a0, an, aT, g180, g180n, o0, o165]); omega) rfl ?_
  try simp (disch := omega) only [t00, p0, p2, p3, p4, p5, p6, p7, p8, p9, a0, an, aT, g180, g180n, o0, o165]
  refine e_step (pc' := 21) hK rfl rfl rfl ?_
  refine e_cQV2 (z := 31) hK rfl rfl (by first | (simp (disch := omega) only [t00, p0, p2, p3, p4, p5, p6, p7, p8, p9, a0, an, aT, g180, g180n, o0, o165]; rfl) | (show _ = 2; assumption) | (show _ = 1; assumption) | (show _ = 0; assumption) | (show _ = 3; assumption) | (show _ = 4; assumption)) rfl (Nat.le_of_ble_eq_true rfl) (Nat.le_of_ble_eq_true rfl) (c_dropLine hA1 i hi) ?_
  rintro _ _ h2 ⟨rfl, rfl, hs2, hf2⟩
  refine ⟨by decide, ?_⟩
  rw [if_pos rfl]
  have oo0 : h2 0 = h1 0 := hf2 0 (by omega)
  have n2 := hs2.2.2.1
  have T2 := hs2.2.2.2.1
  have tg2 := hs2.1.2.2.1
  show mv_Ev _ _ 24 _ _ _ _ _
  refine e_step (pc' := 25) hK rfl rfl rfl ?_
  refine e_getR (ci := 0) (k := 4) (pc' := 28) hK rfl (by simp (disch := omega) only [t00, p0, p2, p3, p4, p5, p6, p7, p8, p9, a0, an, aT, g180, g180n, o0, o165, oo0, o0, n2, T2, tg2]) rfl rfl (by decide) (by decide) (by (try simp (disch := omega) only [t00, p0, p2, p3, p4, p5, p6, p7, p8, p9, a0, an, aT, g180, g180n, o0, o165, oo0, o0, n2, T2, tg2]); omega) rfl ?_
  try simp (disch := omega) only [t00, p0, p2, p3, p4, p5, p6, p7, p8, p9, a0, an, aT, g180, g180n, o0, o165, oo0, o0, n2, T2, tg2]
  refine e_getI (ci := 2) (k := 6) (pc' := 31) hK rfl (by simp (disch := omega) only [t00, p0, p2, p3, p4, p5, p6, p7, p8, p9, a0, an, aT, g180, g180n, o0, o165, oo0, o0, n2, T2, tg2]) rfl rfl (by decide) (by decide) rfl ?_
  try simp (disch := omega) only [t00, p0, p2, p3, p4, p5, p6, p7, p8, p9, a0, an, aT, g180, g180n, o0, o165, oo0, o0, n2, T2, tg2]
  refine e_ret hK rfl rfl rfl ?_
  have e9 : sp_remove W i = (0, ((gT (gdrop (wA W) i) : Nat) : Int), w_R W (gdrop (wA W) i)) := by { unfold sp_remove; (repeat (first | rw [if_pos (by omega)] | rw [if_neg (by omega)])) }
  rw [e9]
  refine ⟨rfl, rfl, hL0.act hH1 hf1 hs2 hf2 (gR_drop hgR), fun b b0 b1 => (hf2 b (by omega)).trans (hf1 b (by omega)), ?_⟩
  dsimp only
  have := hs2.2.1.2.1; omega
set_option maxRecDepth 10000 in
theorem f_again {m : Nat} {W : wt} (hL : LtA m h W) (i : Int) (hi : mv_i i) : mv_Cl sc q_LT_again [(2, 0), (0, i)] c h (fun r c' h' => r = clr 2 1 (sp_again W i).1 (sp_again W i).2.1 ∧ c' = cck (sp_again W i).1 c ∧ LtA m h' (sp_again W i).2.2 ∧ (∀ b : Int, 264 ≤ b → b ≤ 276 → h' b = h b) ∧ mv_i (sp_again W i).2.1) := by
  have hL0 := hL
  obtain ⟨⟨⟨t00, p0, p2, p3, p4, p5, p6, p7, p8, p9, t14, l14, g14, t252, l252, g252a, g252b, t263, l263⟩, hTx, hA, hH, hS0, hS1, hSv, hm, hgR, hgRn, hgRs⟩, hsc⟩ := hL
  have hA0 := hA
  obtain ⟨⟨s1, s2, a0, -, -, -, -, -, -, -, -, -, -⟩, hB, an, aT, -⟩ := hA
  have bn := hB.1
  have bT := hB.2.1
  have g180 := hH.1.1
  have g180n := hH.2.2.1
  have tn := hTx.2.2.1
  have t1g := hTx.2.2.2.1
  have t1l := hTx.2.2.2.2.1
  have hN := hTx.2.2.2.2.2.1
  show mv_Ev sc 62 0 [(2, 0), (0, i), (5, 0), (5, 0)] [] c h _
  have hK : (mv_m 62).1 = kc_LT_again := rfl
  refine e_step (pc' := 1) hK rfl rfl rfl ?_
  refine e_step (pc' := 2) hK rfl rfl rfl ?_
  refine e_callX (z := 53) (vs := [(2, 0), (0, i)]) (r := []) hK rfl rfl rfl rfl rfl (Nat.le_of_ble_eq_true rfl) (decide_eq_true (by first | (simp (disch := omega) only [t00, p0, p2, p3, p4, p5, p6, p7, p8, p9, a0, an, aT, g180, g180n]; rfl) | (show _ = 2; assumption) | (show _ = 1; assumption) | (show _ = 0; assumption))) (Nat.le_of_ble_eq_true rfl) (by decide) rfl rfl rfl (f_checkLine hL0 i hi) ?_
  rintro _ _ _ ⟨rfl, hq⟩
  rcases hq with ⟨hx2, rfl, rfl⟩ | ⟨hx2, rfl, rfl⟩
  rotate_left
  · refine Or.inr ⟨rfl, by decide, by decide, ?_⟩
    have e9 : sp_again W i = (1, 0, W) := by { unfold sp_again; (repeat (first | rw [if_pos (by omega)] | rw [if_neg (by omega)])) }
    rw [e9]
    refine ⟨rfl, rfl, hL0, fun b _ _ => rfl, ?_⟩
    dsimp only
    omega
  refine Or.inl ⟨by decide, ?_⟩
  rw [if_pos rfl]
  show mv_Ev _ _ 5 _ _ _ _ _
  refine e_step (pc' := 6) hK rfl rfl rfl ?_
  refine e_getR (ci := 0) (k := 4) (pc' := 9) hK rfl (by simp (disch := omega) only [t00, p0, p2, p3, p4, p5, p6, p7, p8, p9, a0, an, aT, g180, g180n]) rfl rfl (by decide) (by decide) (by (try simp (disch := omega) only [t00, p0, p2, p3, p4, p5, p6, p7, p8, p9, a0, an, aT, g180, g180n]); first | omega | (have q9 := gtf_b hB (gl (wA W) i); omega)) rfl ?_
  try simp (disch := omega) only [t00, p0, p2, p3, p4, p5, p6, p7, p8, p9, a0, an, aT, g180, g180n]
  refine e_step (pc' := 10) hK rfl rfl rfl ?_
  refine e_cRV2 (z := 26) (pc' := 13) hK rfl rfl (by first | (simp (disch := omega) only [t00, p0, p2, p3, p4, p5, p6, p7, p8, p9, a0, an, aT, g180, g180n]; rfl) | (show _ = 2; assumption) | (show _ = 1; assumption) | (show _ = 0; assumption) | (show _ = 3; assumption) | (show _ = 4; assumption)) rfl (Nat.le_of_ble_eq_true rfl) (Nat.le_of_ble_eq_true rfl) (c_lineAt hA0 i hi) (by decide) rfl ?_
  try simp (disch := omega) only [t00, p0, p2, p3, p4, p5, p6, p7, p8, p9, a0, an, aT, g180, g180n]
  refine e_step (pc' := 14) hK rfl rfl rfl ?_
  try simp only [List.set_cons_zero, List.set_cons_succ]
  refine e_step (pc' := 15) hK rfl rfl rfl ?_
  refine e_getR (ci := 0) (k := 4) (pc' := 18) hK rfl (by simp (disch := omega) only [t00, p0, p2, p3, p4, p5, p6, p7, p8, p9, a0, an, aT, g180, g180n]) rfl rfl (by decide) (by decide) (by (try simp (disch := omega) only [t00, p0, p2, p3, p4, p5, p6, p7, p8, p9, a0, an, aT, g180, g180n]); first | omega | (have q9 := gtf_b hB (gl (wA W) i); omega)) rfl ?_
  try simp (disch := omega) only [t00, p0, p2, p3, p4, p5, p6, p7, p8, p9, a0, an, aT, g180, g180n]
  refine e_step (pc' := 19) hK rfl rfl rfl ?_
  refine e_cRV2 (z := 29) (pc' := 22) hK rfl rfl (by first | (simp (disch := omega) only [t00, p0, p2, p3, p4, p5, p6, p7, p8, p9, a0, an, aT, g180, g180n]; rfl) | (show _ = 2; assumption) | (show _ = 1; assumption) | (show _ = 0; assumption) | (show _ = 3; assumption) | (show _ = 4; assumption)) rfl (Nat.le_of_ble_eq_true rfl) (Nat.le_of_ble_eq_true rfl) (c_templateFor hA0 (hA0.lr i)) (by decide) rfl ?_
  try simp (disch := omega) only [t00, p0, p2, p3, p4, p5, p6, p7, p8, p9, a0, an, aT, g180, g180n]
  refine e_step (pc' := 23) hK rfl rfl rfl ?_
  try simp only [List.set_cons_zero, List.set_cons_succ]
  refine e_step (pc' := 24) hK rfl rfl rfl ?_
  refine e_step (pc' := 27) hK rfl rfl rfl ?_
  refine e_icmp (t := 40) (pc' := 30) hK rfl (by first | omega | (have q9 := gtf_b hB (gl (wA W) i); omega)) (by first | omega | (have q9 := gtf_b hB (gl (wA W) i); omega)) (by decide) rfl (fun hb27 => ?_) (fun hb27 => ?_)
  · replace hb27 := cq_ne.1.mp hb27
    refine e_step (pc' := 41) hK rfl rfl rfl ?_
    refine e_getR (ci := 0) (k := 7) (pc' := 44) hK rfl (by simp (disch := omega) only [t00, p0, p2, p3, p4, p5, p6, p7, p8, p9, a0, an, aT, g180, g180n]) rfl rfl (by decide) (by decide) (by (try simp (disch := omega) only [t00, p0, p2, p3, p4, p5, p6, p7, p8, p9, a0, an, aT, g180, g180n]); first | omega | (have q9 := gtf_b hB (gl (wA W) i); omega)) rfl ?_
    try simp (disch := omega) only [t00, p0, p2, p3, p4, p5, p6, p7, p8, p9, a0, an, aT, g180, g180n]
    refine e_step (pc' := 45) hK rfl rfl rfl ?_
    refine e_getR (ci := 0) (k := 4) (pc' := 48) hK rfl (by simp (disch := omega) only [t00, p0, p2, p3, p4, p5, p6, p7, p8, p9, a0, an, aT, g180, g180n]) rfl rfl (by decide) (by decide) (by (try simp (disch := omega) only [t00, p0, p2, p3, p4, p5, p6, p7, p8, p9, a0, an, aT, g180, g180n]); first | omega | (have q9 := gtf_b hB (gl (wA W) i); omega)) rfl ?_
    try simp (disch := omega) only [t00, p0, p2, p3, p4, p5, p6, p7, p8, p9, a0, an, aT, g180, g180n]
    refine e_cQV2 (z := 35) hK rfl rfl (by first | (simp (disch := omega) only [t00, p0, p2, p3, p4, p5, p6, p7, p8, p9, a0, an, aT, g180, g180n]; rfl) | (show _ = 2; assumption) | (show _ = 1; assumption) | (show _ = 0; assumption) | (show _ = 3; assumption) | (show _ = 4; assumption)) rfl (Nat.le_of_ble_eq_true rfl) (Nat.le_of_ble_eq_true rfl) (c_remember hH hA0) ?_
    rintro _ _ h1 ⟨rfl, rfl, hH1, hf1⟩
    refine ⟨by decide, ?_⟩
    rw [if_pos rfl]
    have hA1 := hL0.act' hf1
    have o0 := hf1 0 (by omega)
    have o165 : (h1 165).1 = 2 := by { rw [hf1 165 (by omega)]; exact a0 }
    show mv_Ev _ _ 51 _ _ _ _ _
    have hl1 := (hA0.lr i).rk (rfx_l hgR i) (fun b hb => hf1 b (by omega))
    have q9 := gtf_b hB (gl (wA W) i)
    have q8 := gtf_c (A := wA W) (x := gl (wA W) i)
    have q7 : gn (gput (wA W) (gl (wA W) i) (gtf (wA W) (gl (wA W) i))) = gn (wA W) + 1 := by { rw [gput_w hb27 hB.2.1, gpu_n] }
    refine e_step (pc' := 52) hK rfl rfl rfl ?_
    refine e_getR (ci := 0) (k := 4) (pc' := 55) hK rfl (by simp (disch := omega) only [t00, p0, p2, p3, p4, p5, p6, p7, p8, p9, a0, an, aT, g180, g180n, o0, o165]) rfl rfl (by decide) (by decide) (by (try simp (disch := omega) only [t00, p0, p2, p3, p4, p5, p6, p7, p8, p9, a0, an, aT, g180, g180n, o0, o165]); first | omega | (have q9 := gtf_b hB (gl (wA W) i); omega)) rfl ?_
    try simp (disch := omega) only [t00, p0, p2, p3, p4, p5, p6, p7, p8, p9, a0, an, aT, g180, g180n, o0, o165]
    refine e_step (pc' := 56) hK rfl rfl rfl ?_
    refine e_step (pc' := 57) hK rfl rfl rfl ?_
    refine e_cQV3 (z := 30) hK rfl rfl (by first | (simp (disch := omega) only [t00, p0, p2, p3, p4, p5, p6, p7, p8, p9, a0, an, aT, g180, g180n, o0, o165]; rfl) | (show _ = 2; assumption) | (show _ = 1; assumption) | (show _ = 0; assumption) | (show _ = 3; assumption) | (show _ = 4; assumption)) rfl (Nat.le_of_ble_eq_true rfl) (Nat.le_of_ble_eq_true rfl) (c_put hA1 hl1 _ (by have q9 := gtf_b hB (gl (wA W) i); omega)) ?_
    rintro _ _ h2 ⟨rfl, rfl, hs2, hf2⟩
    refine ⟨by decide, ?_⟩
    rw [if_pos rfl]
    have oo0 : h2 0 = h1 0 := hf2 0 (by omega)
    have n2 := hs2.2.2.1
    have T2 := hs2.2.2.2.1
    have tg2 := hs2.1.2.2.1
    show mv_Ev _ _ 60 _ _ _ _ _
    refine e_step (pc' := 61) hK rfl rfl rfl ?_
    refine e_getR (ci := 0) (k := 4) (pc' := 64) hK rfl (by simp (disch := omega) only [t00, p0, p2, p3, p4, p5, p6, p7, p8, p9, a0, an, aT, g180, g180n, o0, o165, oo0, o0, n2, T2, tg2]) rfl rfl (by decide) (by decide) (by (try simp (disch := omega) only [t00, p0, p2, p3, p4, p5, p6, p7, p8, p9, a0, an, aT, g180, g180n, o0, o165, oo0, o0, n2, T2, tg2]); first | omega | (have q9 := gtf_b hB (gl (wA W) i); omega)) rfl ?_
    try simp (disch := omega) only [t00, p0, p2, p3, p4, p5, p6, p7, p8, p9, a0, an, aT, g180, g180n, o0, o165, oo0, o0, n2, T2, tg2]
    refine e_getI (ci := 2) (k := 5) (pc' := 67) hK rfl (by simp (disch := omega) only [t00, p0, p2, p3, p4, p5, p6, p7, p8, p9, a0, an, aT, g180, g180n, o0, o165, oo0, o0, n2, T2, tg2]) rfl rfl (by decide) (by decide) rfl ?_
    try simp (disch := omega) only [t00, p0, p2, p3, p4, p5, p6, p7, p8, p9, a0, an, aT, g180, g180n, o0, o165, oo0, o0, n2, T2, tg2]
    refine e_step (pc' := 68) hK rfl rfl rfl ?_
    refine e_step (pc' := 69) hK rfl rfl rfl ?_
    refine e_ret hK rfl rfl rfl ?_
    rw [q7, show ((gn (wA W) + 1 : Nat) : Int) - 1 = gn (wA W) from by omega]
    have e9 : sp_again W i = (0, ((gn (wA W) : Nat) : Int), w_R W (gput (wA W) (gl (wA W) i) (gtf (wA W) (gl (wA W) i)))) := by { unfold sp_again; (repeat (first | rw [if_pos (by omega)] | rw [if_neg (by omega)])) }
    rw [e9]
    refine ⟨rfl, rfl, hL0.act hH1 hf1 hs2 hf2 (gR_put hgR (rfx_l hgR i)), fun b b0 b1 => (hf2 b (by omega)).trans (hf1 b (by omega)), ?_⟩
    dsimp only
    omega
  · replace hb27 := cq_ne.2.mp hb27
    refine e_thr (E := 1) hK rfl rfl rfl rfl ?_
    have e9 : sp_again W i = (2, 0, W) := by { unfold sp_again; (repeat (first | rw [if_pos (by omega)] | rw [if_neg (by omega)])) }
    rw [e9]
    refine ⟨rfl, rfl, hL0, fun b _ _ => rfl, ?_⟩
    dsimp only
    omega
set_option maxRecDepth 10000 in
theorem f_open {m : Nat} {W : wt} (hL : LtA m h W) (t : Int) (ht : mv_i t) (q : Int) (hq : mv_i q) : mv_Cl sc q_LT_open [(2, 0), (0, t), (0, q)] c h (fun r c' h' => r = clr 2 1 (sp_open W t q).1 (sp_open W t q).2.1 ∧ c' = cck (sp_open W t q).1 c ∧ LtA m h' (sp_open W t q).2.2 ∧ (∀ b : Int, 264 ≤ b → b ≤ 276 → h' b = h b) ∧ mv_i (sp_open W t q).2.1) := by
  have hL0 := hL
  obtain ⟨⟨⟨t00, p0, p2, p3, p4, p5, p6, p7, p8, p9, t14, l14, g14, t252, l252, g252a, g252b, t263, l263⟩, hTx, hA, hH, hS0, hS1, hSv, hm, hgR, hgRn, hgRs⟩, hsc⟩ := hL
  have hA0 := hA
  obtain ⟨⟨s1, s2, a0, -, -, -, -, -, -, -, -, -, -⟩, hB, an, aT, -⟩ := hA
  have bn := hB.1
  have bT := hB.2.1
  have g180 := hH.1.1
  have g180n := hH.2.2.1
  have tn := hTx.2.2.1
  have t1g := hTx.2.2.2.1
  have t1l := hTx.2.2.2.2.1
  have hN := hTx.2.2.2.2.2.1
  have stg := (hA0.sr t).tag
  show mv_Ev sc 64 0 [(2, 0), (0, t), (0, q)] [] c h _
  have hK : (mv_m 64).1 = kc_LT_open := rfl
  refine e_step (pc' := 1) hK rfl rfl rfl ?_
  refine e_step (pc' := 2) hK rfl rfl rfl ?_
  refine e_callX (z := 58) (vs := [(2, 0), (0, t)]) (r := []) hK rfl rfl rfl rfl rfl (Nat.le_of_ble_eq_true rfl) (decide_eq_true (by first | (simp (disch := omega) only [t00, p0, p2, p3, p4, p5, p6, p7, p8, p9, a0, an, aT, g180, g180n, stg]; rfl) | (show _ = 2; assumption) | (show _ = 1; assumption) | (show _ = 0; assumption))) (Nat.le_of_ble_eq_true rfl) (by decide) rfl rfl rfl (f_checkTemp hL0 t ht) ?_
  rintro _ _ _ ⟨rfl, hq⟩
  rcases hq with ⟨hx2, rfl, rfl⟩ | ⟨hx2, rfl, rfl⟩
  rotate_left
  · refine Or.inr ⟨rfl, by decide, by decide, ?_⟩
    have e9 : sp_open W t q = (1, 0, W) := by { unfold sp_open; (repeat (first | rw [if_pos (by omega)] | rw [if_neg (by omega)])) }
    rw [e9]
    refine ⟨rfl, rfl, hL0, fun b _ _ => rfl, ?_⟩
    dsimp only
    omega
  refine Or.inl ⟨by decide, ?_⟩
  rw [if_pos rfl]
  show mv_Ev _ _ 5 _ _ _ _ _
  refine e_step (pc' := 6) hK rfl rfl rfl ?_
  refine e_getR (ci := 0) (k := 4) (pc' := 9) hK rfl (by simp (disch := omega) only [t00, p0, p2, p3, p4, p5, p6, p7, p8, p9, a0, an, aT, g180, g180n, stg]) rfl rfl (by decide) (by decide) (by (try simp (disch := omega) only [t00, p0, p2, p3, p4, p5, p6, p7, p8, p9, a0, an, aT, g180, g180n, stg]); first | omega | (have q9 := gk_b hB t q; omega)) rfl ?_
  try simp (disch := omega) only [t00, p0, p2, p3, p4, p5, p6, p7, p8, p9, a0, an, aT, g180, g180n, stg]
  refine e_step (pc' := 10) hK rfl rfl rfl ?_
  refine e_cRV2 (z := 17) (pc' := 13) hK rfl rfl (by first | (simp (disch := omega) only [t00, p0, p2, p3, p4, p5, p6, p7, p8, p9, a0, an, aT, g180, g180n, stg]; rfl) | (show _ = 2; assumption) | (show _ = 1; assumption) | (show _ = 0; assumption) | (show _ = 3; assumption) | (show _ = 4; assumption)) rfl (Nat.le_of_ble_eq_true rfl) (Nat.le_of_ble_eq_true rfl) (c_sampleAt hA0 t ht) (by decide) rfl ?_
  try simp (disch := omega) only [t00, p0, p2, p3, p4, p5, p6, p7, p8, p9, a0, an, aT, g180, g180n, stg]
  refine e_step (pc' := 14) hK rfl rfl rfl ?_
  refine e_callX (z := 56) (vs := [(2, srf _ 165 (wA W) t), (0, q)]) (r := []) hK rfl rfl rfl rfl rfl (Nat.le_of_ble_eq_true rfl) rfl (Nat.le_of_ble_eq_true rfl) (by decide) rfl rfl rfl (f_checkPiece (hA0.sr t) q hq) ?_
  rintro _ _ _ ⟨rfl, hq⟩
  rcases hq with ⟨hx14, rfl, rfl⟩ | ⟨hx14, rfl, rfl⟩
  rotate_left
  · refine Or.inr ⟨rfl, by decide, by decide, ?_⟩
    have e9 : sp_open W t q = (1, 0, W) := by { unfold sp_open; (repeat (first | rw [if_pos (by omega)] | rw [if_neg (by omega)])) }
    rw [e9]
    refine ⟨rfl, rfl, hL0, fun b _ _ => rfl, ?_⟩
    dsimp only
    omega
  refine Or.inl ⟨by decide, ?_⟩
  rw [if_pos rfl]
  show mv_Ev _ _ 17 _ _ _ _ _
  refine e_step (pc' := 18) hK rfl rfl rfl ?_
  refine e_getR (ci := 0) (k := 4) (pc' := 21) hK rfl (by simp (disch := omega) only [t00, p0, p2, p3, p4, p5, p6, p7, p8, p9, a0, an, aT, g180, g180n, stg]) rfl rfl (by decide) (by decide) (by (try simp (disch := omega) only [t00, p0, p2, p3, p4, p5, p6, p7, p8, p9, a0, an, aT, g180, g180n, stg]); first | omega | (have q9 := gk_b hB t q; omega)) rfl ?_
  try simp (disch := omega) only [t00, p0, p2, p3, p4, p5, p6, p7, p8, p9, a0, an, aT, g180, g180n, stg]
  refine e_step (pc' := 22) hK rfl rfl rfl ?_
  refine e_step (pc' := 23) hK rfl rfl rfl ?_
  refine e_cRV3 (z := 18) (pc' := 26) hK rfl rfl (by first | (simp (disch := omega) only [t00, p0, p2, p3, p4, p5, p6, p7, p8, p9, a0, an, aT, g180, g180n, stg]; rfl) | (show _ = 2; assumption) | (show _ = 1; assumption) | (show _ = 0; assumption) | (show _ = 3; assumption) | (show _ = 4; assumption)) rfl (Nat.le_of_ble_eq_true rfl) (Nat.le_of_ble_eq_true rfl) (c_kindIn hA0 t q ht hq) (by decide) rfl ?_
  try simp (disch := omega) only [t00, p0, p2, p3, p4, p5, p6, p7, p8, p9, a0, an, aT, g180, g180n, stg]
  refine e_if (t := 39) (pc' := 29) hK rfl (by first | omega | (have q9 := gk_b hB t q; omega)) (by decide) rfl (fun hb26 => ?_) (fun hb26 => ?_)
  · replace hb26 := cq_eq.1.mp hb26
    refine e_step (pc' := 40) hK rfl rfl rfl ?_
    refine e_getR (ci := 0) (k := 7) (pc' := 43) hK rfl (by simp (disch := omega) only [t00, p0, p2, p3, p4, p5, p6, p7, p8, p9, a0, an, aT, g180, g180n, stg]) rfl rfl (by decide) (by decide) (by (try simp (disch := omega) only [t00, p0, p2, p3, p4, p5, p6, p7, p8, p9, a0, an, aT, g180, g180n, stg]); first | omega | (have q9 := gk_b hB t q; omega)) rfl ?_
    try simp (disch := omega) only [t00, p0, p2, p3, p4, p5, p6, p7, p8, p9, a0, an, aT, g180, g180n, stg]
    refine e_step (pc' := 44) hK rfl rfl rfl ?_
    refine e_getR (ci := 0) (k := 4) (pc' := 47) hK rfl (by simp (disch := omega) only [t00, p0, p2, p3, p4, p5, p6, p7, p8, p9, a0, an, aT, g180, g180n, stg]) rfl rfl (by decide) (by decide) (by (try simp (disch := omega) only [t00, p0, p2, p3, p4, p5, p6, p7, p8, p9, a0, an, aT, g180, g180n, stg]); first | omega | (have q9 := gk_b hB t q; omega)) rfl ?_
    try simp (disch := omega) only [t00, p0, p2, p3, p4, p5, p6, p7, p8, p9, a0, an, aT, g180, g180n, stg]
    refine e_cQV2 (z := 35) hK rfl rfl (by first | (simp (disch := omega) only [t00, p0, p2, p3, p4, p5, p6, p7, p8, p9, a0, an, aT, g180, g180n, stg]; rfl) | (show _ = 2; assumption) | (show _ = 1; assumption) | (show _ = 0; assumption) | (show _ = 3; assumption) | (show _ = 4; assumption)) rfl (Nat.le_of_ble_eq_true rfl) (Nat.le_of_ble_eq_true rfl) (c_remember hH hA0) ?_
    rintro _ _ h1 ⟨rfl, rfl, hH1, hf1⟩
    refine ⟨by decide, ?_⟩
    rw [if_pos rfl]
    have hA1 := hL0.act' hf1
    have o0 := hf1 0 (by omega)
    have o165 : (h1 165).1 = 2 := by { rw [hf1 165 (by omega)]; exact a0 }
    show mv_Ev _ _ 50 _ _ _ _ _
    refine e_step (pc' := 51) hK rfl rfl rfl ?_
    refine e_getR (ci := 0) (k := 4) (pc' := 54) hK rfl (by simp (disch := omega) only [t00, p0, p2, p3, p4, p5, p6, p7, p8, p9, a0, an, aT, g180, g180n, stg, o0, o165]) rfl rfl (by decide) (by decide) (by (try simp (disch := omega) only [t00, p0, p2, p3, p4, p5, p6, p7, p8, p9, a0, an, aT, g180, g180n, stg, o0, o165]); first | omega | (have q9 := gk_b hB t q; omega)) rfl ?_
    try simp (disch := omega) only [t00, p0, p2, p3, p4, p5, p6, p7, p8, p9, a0, an, aT, g180, g180n, stg, o0, o165]
    refine e_step (pc' := 55) hK rfl rfl rfl ?_
    refine e_step (pc' := 56) hK rfl rfl rfl ?_
    refine e_cQV3 (z := 20) hK rfl rfl (by first | (simp (disch := omega) only [t00, p0, p2, p3, p4, p5, p6, p7, p8, p9, a0, an, aT, g180, g180n, stg, o0, o165]; rfl) | (show _ = 2; assumption) | (show _ = 1; assumption) | (show _ = 0; assumption) | (show _ = 3; assumption) | (show _ = 4; assumption)) rfl (Nat.le_of_ble_eq_true rfl) (Nat.le_of_ble_eq_true rfl) (c_openWord hA1 t q ht hq) ?_
    rintro _ _ h2 ⟨rfl, rfl, hs2, hf2⟩
    refine ⟨by decide, ?_⟩
    rw [if_pos rfl]
    have oo0 : h2 0 = h1 0 := hf2 0 (by omega)
    have n2 := hs2.2.2.1
    have T2 := hs2.2.2.2.1
    have tg2 := hs2.1.2.2.1
    show mv_Ev _ _ 59 _ _ _ _ _
    refine e_step (pc' := 60) hK rfl rfl rfl ?_
    refine e_getR (ci := 0) (k := 4) (pc' := 63) hK rfl (by simp (disch := omega) only [t00, p0, p2, p3, p4, p5, p6, p7, p8, p9, a0, an, aT, g180, g180n, stg, o0, o165, oo0, o0, n2, T2, tg2]) rfl rfl (by decide) (by decide) (by (try simp (disch := omega) only [t00, p0, p2, p3, p4, p5, p6, p7, p8, p9, a0, an, aT, g180, g180n, stg, o0, o165, oo0, o0, n2, T2, tg2]); first | omega | (have q9 := gk_b hB t q; omega)) rfl ?_
    try simp (disch := omega) only [t00, p0, p2, p3, p4, p5, p6, p7, p8, p9, a0, an, aT, g180, g180n, stg, o0, o165, oo0, o0, n2, T2, tg2]
    refine e_step (pc' := 64) hK rfl rfl rfl ?_
    refine e_cRS2 (z := 83) (pc' := 67) hK rfl rfl rfl (Nat.le_of_ble_eq_true rfl) (Nat.le_of_ble_eq_true rfl) (c_ofTemp hs2 t ht) (by decide) rfl ?_
    try simp (disch := omega) only [t00, p0, p2, p3, p4, p5, p6, p7, p8, p9, a0, an, aT, g180, g180n, stg, o0, o165, oo0, o0, n2, T2, tg2]
    refine e_ret hK rfl rfl rfl ?_
    have e9 : sp_open W t q = (0, cot (gopen (wA W) t q) t, w_R W (gopen (wA W) t q)) := by { unfold sp_open; (repeat (first | rw [if_pos (by omega)] | rw [if_neg (by omega)])) }
    rw [e9]
    refine ⟨rfl, rfl, hL0.act hH1 hf1 hs2 hf2 (gR_open hgR), fun b b0 b1 => (hf2 b (by omega)).trans (hf1 b (by omega)), ?_⟩
    dsimp only
    have := cot_b hs2.2.1 t; omega
  · replace hb26 := cq_eq.2.mp hb26
    refine e_thr (E := 1) hK rfl rfl rfl rfl ?_
    have e9 : sp_open W t q = (2, 0, W) := by { unfold sp_open; (repeat (first | rw [if_pos (by omega)] | rw [if_neg (by omega)])) }
    rw [e9]
    refine ⟨rfl, rfl, hL0, fun b _ _ => rfl, ?_⟩
    dsimp only
    omega
end FB
