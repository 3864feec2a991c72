/-! the face: take, simulate, runScript (written by wip/whole/m64.py) -/
section FD
variable {sc : Int × (Int → Int)} {c : mv_C} {h : mv_H}
set_option maxRecDepth 10000 in
theorem f_take {m o s : Nat} {W : wt} (hL : LtA m h W) : mv_Cl sc q_LT_take [(2, 0)] (m, o, s) h (fun r c' h' => r = clr 1 9 (sp_take W m).1 (sp_take W m).2.1 ∧ cgr (m, o, s) c' ∧ LtA c'.1 h' (sp_take W m).2.2 ∧ (∀ b : Int, 264 ≤ b → b ≤ 276 → h' b = h b) ∧ mv_i (sp_take W m).2.1) := by
  have hL0 := hL
  obtain ⟨⟨⟨t00, p0, p2, p3, p4, p5, p6, p7, p8, p9, t14, l14, g14, t252, l252, g252a, g252b, t263, l263⟩, hTx, hA, hH, hS0, hS1, hSv, hm, hgR, hgRn, hgRs⟩, hsc⟩ := hL
  have hA0 := hA
  obtain ⟨⟨s1, s2, a0, -, -, -, -, -, -, -, -, -, -⟩, hB, an, aT, -⟩ := hA
  have bn := hB.1
  have bT := hB.2.1
  have g180 := hH.1.1
  have g180n := hH.2.2.1
  have tr170 := hsc.2.2.1.2.2.1
  have hn14 := hH.2.1
  have hN := hTx.2.2.2.2.2.1
  show mv_Ev sc 61 0 [(2, 0), (5, 0), (5, 0)] [] (m, o, s) h _
  have hK : (mv_m 61).1 = kc_LT_take := rfl
  refine e_step (pc' := 1) hK rfl rfl rfl ?_
  refine e_step (pc' := 2) hK rfl rfl rfl ?_
  refine e_getR (ci := 0) (k := 2) (pc' := 5) hK rfl (by simp (disch := omega) only [t00, p0, p2, p3, p4, p5, p6, p7, p8, p9, a0, an, aT, g180, g180n, tr170, uo_e, uo_n]) rfl rfl (by decide) (by decide) (by (try simp (disch := omega) only [t00, p0, p2, p3, p4, p5, p6, p7, p8, p9, a0, an, aT, g180, g180n, tr170, uo_e, uo_n]); first | omega | (have q9 := gtf_b hB (xtg (wN W) (wF W) 8); omega)) rfl ?_
  try simp (disch := omega) only [t00, p0, p2, p3, p4, p5, p6, p7, p8, p9, a0, an, aT, g180, g180n, tr170, uo_e, uo_n]
  refine e_cQV2 (z := 42) hK rfl rfl (by first | (simp (disch := omega) only [t00, p0, p2, p3, p4, p5, p6, p7, p8, p9, a0, an, aT, g180, g180n, tr170, uo_e, uo_n]; rfl) | (show _ = 2; assumption) | (show _ = 1; assumption) | (show _ = 0; assumption) | (show _ = 3; assumption) | (show _ = 4; assumption)) rfl (Nat.le_of_ble_eq_true rfl) (Nat.le_of_ble_eq_true rfl) (c_read hTx hsc.1 (by decide)) ?_
  rintro _ _ hr ⟨rfl, rfl, hln, hlw, hfl⟩
  refine ⟨by show (0 : Nat) ≠ 4; decide, ?_⟩
  rw [if_neg (by show ¬ (0 : Nat) = 3; decide)]
  try dsimp only
  have hLr := hL0.rd hlw hfl
  have or0 := hfl 0 (by omega)
  have or165 : (hr 165).1 = 2 := by { rw [hfl 165 (by omega)]; exact a0 }
  have ern := er_b (wN W) (wF W)
  have or8 := hlw.2.1
  show mv_Ev _ _ 8 _ _ _ _ _
  refine e_step (pc' := 11) hK rfl rfl rfl ?_
  refine e_icmp (t := 24) (pc' := 14) hK rfl (by first | omega | (have q9 := gtf_b hB (xtg (wN W) (wF W) 8); omega)) (by first | omega | (have q9 := gtf_b hB (xtg (wN W) (wF W) 8); omega)) (by decide) rfl (fun hb11 => ?_) (fun hb11 => ?_)
  · replace hb11 := cq_eq.1.mp hb11
    have hokx : xok (wN W, wF W) := (er_ok hb11).1
    have hx8 := LnX_tg (hln hb11) ⟨by decide, Or.inl (by decide)⟩
    refine e_step (pc' := 25) hK rfl rfl rfl ?_
    refine e_getR (ci := 0) (k := 4) (pc' := 28) hK rfl (by simp (disch := omega) only [t00, p0, p2, p3, p4, p5, p6, p7, p8, p9, a0, an, aT, g180, g180n, tr170, uo_e, uo_n, or0, or165, or8]) rfl rfl (by decide) (by decide) (by (try simp (disch := omega) only [t00, p0, p2, p3, p4, p5, p6, p7, p8, p9, a0, an, aT, g180, g180n, tr170, uo_e, uo_n, or0, or165, or8]); first | omega | (have q9 := gtf_b hB (xtg (wN W) (wF W) 8); omega)) rfl ?_
    try simp (disch := omega) only [t00, p0, p2, p3, p4, p5, p6, p7, p8, p9, a0, an, aT, g180, g180n, tr170, uo_e, uo_n, or0, or165, or8]
    refine e_step (pc' := 29) hK rfl rfl rfl ?_
    refine e_getR (ci := 0) (k := 2) (pc' := 32) hK rfl (by simp (disch := omega) only [t00, p0, p2, p3, p4, p5, p6, p7, p8, p9, a0, an, aT, g180, g180n, tr170, uo_e, uo_n, or0, or165, or8]) rfl rfl (by decide) (by decide) (by (try simp (disch := omega) only [t00, p0, p2, p3, p4, p5, p6, p7, p8, p9, a0, an, aT, g180, g180n, tr170, uo_e, uo_n, or0, or165, or8]); first | omega | (have q9 := gtf_b hB (xtg (wN W) (wF W) 8); omega)) rfl ?_
    try simp (disch := omega) only [t00, p0, p2, p3, p4, p5, p6, p7, p8, p9, a0, an, aT, g180, g180n, tr170, uo_e, uo_n, or0, or165, or8]
    refine e_cRV2 (z := 29) (pc' := 35) hK rfl rfl (by first | (simp (disch := omega) only [t00, p0, p2, p3, p4, p5, p6, p7, p8, p9, a0, an, aT, g180, g180n, tr170, uo_e, uo_n, or0, or165, or8]; rfl) | (show _ = 2; assumption) | (show _ = 1; assumption) | (show _ = 0; assumption) | (show _ = 3; assumption) | (show _ = 4; assumption)) rfl (Nat.le_of_ble_eq_true rfl) (Nat.le_of_ble_eq_true rfl) (c_templateFor hLr.1.2.2.1 hx8) (by decide) rfl ?_
    try simp (disch := omega) only [t00, p0, p2, p3, p4, p5, p6, p7, p8, p9, a0, an, aT, g180, g180n, tr170, uo_e, uo_n, or0, or165, or8]
    refine e_step (pc' := 36) hK rfl rfl rfl ?_
    try simp only [List.set_cons_zero, List.set_cons_succ]
    refine e_step (pc' := 37) hK rfl rfl rfl ?_
    refine e_step (pc' := 40) hK rfl rfl rfl ?_
    refine e_icmp (t := 53) (pc' := 43) hK rfl (by first | omega | (have q9 := gtf_b hB (xtg (wN W) (wF W) 8); omega)) (by first | omega | (have q9 := gtf_b hB (xtg (wN W) (wF W) 8); omega)) (by decide) rfl (fun hb40 => ?_) (fun hb40 => ?_)
    · replace hb40 := cq_ne.1.mp hb40
      have hmm := hLr.1.2.2.2.2.2.2.2.1
      have q9 := gtf_b hB (xtg (wN W) (wF W) 8)
      refine e_new (ci := 1) (pc' := 56) hK rfl rfl (by decide) rfl ?_
      refine e_step (pc' := 57) hK rfl rfl rfl ?_
      refine e_cQI1 (z := 4) hK rfl rfl rfl (Nat.le_of_ble_eq_true rfl) (Nat.le_of_ble_eq_true rfl) (c_lineInit m (o + 1) (s + mv_fn 1) (uo_e rfl)) ?_
      rintro _ _ hb ⟨rfl, rfl, hlI, hfI⟩
      refine ⟨by decide, ?_⟩
      rw [if_pos rfl]
      have hLb : LtA m hb W := hLr.old (fun b hb0 => by rw [hfI b (by omega), uo_n (by omega)])
      have ob0 : hb 0 = hr 0 := by { rw [hfI 0 (by omega), uo_n (by omega)] }
      show mv_Ev _ _ 60 _ _ _ _ _
      refine e_step (pc' := 61) hK rfl rfl rfl ?_
      try simp only [List.set_cons_zero, List.set_cons_succ]
      refine e_step (pc' := 62) hK rfl rfl rfl ?_
      refine e_step (pc' := 63) hK rfl rfl rfl ?_
      refine e_cQV2 (z := 42) hK rfl rfl (by first | (simp (disch := omega) only [t00, p0, p2, p3, p4, p5, p6, p7, p8, p9, a0, an, aT, g180, g180n, tr170, uo_e, uo_n, or0, or165, or8, ob0]; rfl) | (show _ = 2; assumption) | (show _ = 1; assumption) | (show _ = 0; assumption) | (show _ = 3; assumption) | (show _ = 4; assumption)) rfl (Nat.le_of_ble_eq_true rfl) (Nat.le_of_ble_eq_true rfl) (c_read hLb.1.2.1 (hlI (fun _ => 0)).1 (by omega)) ?_
      rintro _ _ hc ⟨rfl, rfl, hln2, hlw2, hfl2⟩
      refine ⟨by show (0 : Nat) ≠ 4; decide, ?_⟩
      rw [if_neg (by show ¬ (0 : Nat) = 3; decide)]
      try dsimp only
      have hLc : LtA m hc W := hLb.old (fun b hb0 => hfl2 b (by omega))
      have oc0 : hc 0 = hb 0 := hfl2 0 (by omega)
      have hLd := hLc.mo (show m ≤ m + 6 by omega)
      have oc180 := hLc.1.2.2.2.1.1.1
      have hxm := LnX_tg (hln2 hb11) ⟨by omega, Or.inr (by omega)⟩
      show mv_Ev _ _ 66 _ _ _ _ _
      refine e_step (pc' := 67) hK rfl rfl rfl ?_
      refine e_step (pc' := 68) hK rfl rfl rfl ?_
      refine e_getR (ci := 0) (k := 7) (pc' := 71) hK rfl (by simp (disch := omega) only [t00, p0, p2, p3, p4, p5, p6, p7, p8, p9, a0, an, aT, g180, g180n, tr170, uo_e, uo_n, or0, or165, or8, ob0, oc0, oc180]) rfl rfl (by decide) (by decide) (by (try simp (disch := omega) only [t00, p0, p2, p3, p4, p5, p6, p7, p8, p9, a0, an, aT, g180, g180n, tr170, uo_e, uo_n, or0, or165, or8, ob0, oc0, oc180]); first | omega | (have q9 := gtf_b hB (xtg (wN W) (wF W) 8); omega)) rfl ?_
      try simp (disch := omega) only [t00, p0, p2, p3, p4, p5, p6, p7, p8, p9, a0, an, aT, g180, g180n, tr170, uo_e, uo_n, or0, or165, or8, ob0, oc0, oc180]
      refine e_step (pc' := 72) hK rfl rfl rfl ?_
      refine e_getR (ci := 0) (k := 4) (pc' := 75) hK rfl (by simp (disch := omega) only [t00, p0, p2, p3, p4, p5, p6, p7, p8, p9, a0, an, aT, g180, g180n, tr170, uo_e, uo_n, or0, or165, or8, ob0, oc0, oc180]) rfl rfl (by decide) (by decide) (by (try simp (disch := omega) only [t00, p0, p2, p3, p4, p5, p6, p7, p8, p9, a0, an, aT, g180, g180n, tr170, uo_e, uo_n, or0, or165, or8, ob0, oc0, oc180]); first | omega | (have q9 := gtf_b hB (xtg (wN W) (wF W) 8); omega)) rfl ?_
      try simp (disch := omega) only [t00, p0, p2, p3, p4, p5, p6, p7, p8, p9, a0, an, aT, g180, g180n, tr170, uo_e, uo_n, or0, or165, or8, ob0, oc0, oc180]
      refine e_cQV2 (z := 35) hK rfl rfl (by first | (simp (disch := omega) only [t00, p0, p2, p3, p4, p5, p6, p7, p8, p9, a0, an, aT, g180, g180n, tr170, uo_e, uo_n, or0, or165, or8, ob0, oc0, oc180]; rfl) | (show _ = 2; assumption) | (show _ = 1; assumption) | (show _ = 0; assumption) | (show _ = 3; assumption) | (show _ = 4; assumption)) rfl (Nat.le_of_ble_eq_true rfl) (Nat.le_of_ble_eq_true rfl) (c_remember hLd.1.2.2.2.1 hLd.1.2.2.1) ?_
      rintro _ _ h1 ⟨rfl, rfl, hH1, hf1⟩
      refine ⟨by decide, ?_⟩
      rw [if_pos rfl]
      have hA1 := hLd.act' hf1
      have o0 := hf1 0 (by omega)
      have o165 : (h1 165).1 = 2 := hA1.1.2.2.1
      have hrx : rfx (m + 6) (xtg (wN W) (wF W) (m : Int)) := Or.inr ⟨by show 277 ≤ mv_up (wF W) (-1) (m : Int) (-1); rw [up_s]; omega, by show mv_up (wF W) (-1) (m : Int) (-1) + 6 ≤ _; rw [up_s]; omega⟩
      have hx1 := hxm.rk hrx (fun b hb => hf1 b (by omega))
      show mv_Ev _ _ 78 _ _ _ _ _
      refine e_step (pc' := 79) hK rfl rfl rfl ?_
      refine e_getR (ci := 0) (k := 4) (pc' := 82) hK rfl (by simp (disch := omega) only [t00, p0, p2, p3, p4, p5, p6, p7, p8, p9, a0, an, aT, g180, g180n, tr170, uo_e, uo_n, or0, or165, or8, ob0, oc0, oc180, o0, o165]) rfl rfl (by decide) (by decide) (by (try simp (disch := omega) only [t00, p0, p2, p3, p4, p5, p6, p7, p8, p9, a0, an, aT, g180, g180n, tr170, uo_e, uo_n, or0, or165, or8, ob0, oc0, oc180, o0, o165]); first | omega | (have q9 := gtf_b hB (xtg (wN W) (wF W) 8); omega)) rfl ?_
      try simp (disch := omega) only [t00, p0, p2, p3, p4, p5, p6, p7, p8, p9, a0, an, aT, g180, g180n, tr170, uo_e, uo_n, or0, or165, or8, ob0, oc0, oc180, o0, o165]
      refine e_step (pc' := 83) hK rfl rfl rfl ?_
      refine e_step (pc' := 84) hK rfl rfl rfl ?_
      refine e_cQV3 (z := 30) hK rfl rfl (by first | (simp (disch := omega) only [t00, p0, p2, p3, p4, p5, p6, p7, p8, p9, a0, an, aT, g180, g180n, tr170, uo_e, uo_n, or0, or165, or8, ob0, oc0, oc180, o0, o165]; rfl) | (show _ = 2; assumption) | (show _ = 1; assumption) | (show _ = 0; assumption) | (show _ = 3; assumption) | (show _ = 4; assumption)) rfl (Nat.le_of_ble_eq_true rfl) (Nat.le_of_ble_eq_true rfl) (c_put hA1 hx1 _ (by have q9 := gtf_b hB (xtg (wN W) (wF W) 8); omega)) ?_
      rintro _ _ h2 ⟨rfl, rfl, hs2, hf2⟩
      refine ⟨by decide, ?_⟩
      rw [if_pos rfl]
      show mv_Ev _ _ 87 _ _ _ _ _
      refine e_step (pc' := 88) hK rfl rfl rfl ?_
      refine e_ret hK rfl rfl rfl ?_
      have e8 := gtf_tg (l := 8) (A := wA W) hokx
      have e9 : sp_take W m = (0, gtf (wA W) (wN W, wF W), w_R W (gput (wA W) (wN W, mv_up (wF W) (-1) (m : Int)) (gtf (wA W) (wN W, wF W)))) := by { unfold sp_take; rw [if_pos ⟨hb11, by rw [← e8]; exact hb40⟩] }
      rw [e9]
      rw [e8] at hs2 q9
      refine ⟨by rw [e8]; rfl, ⟨by dsimp only; omega, by dsimp only; omega, by show s + 7 + 88 ≤ s + 200; omega⟩, hLd.act hH1 hf1 hs2 hf2 (gR_put (gR_mo hgR (by omega)) hrx), fun b b0 b1 => ?_, by dsimp only; omega⟩
      rw [hf2 b (by omega), hf1 b (by omega), hfl2 b (by omega), hfI b (by omega), uo_n (by omega), hfl b (by omega)]
    · replace hb40 := cq_ne.2.mp hb40
      refine e_thr (E := 1) hK rfl rfl rfl rfl ?_
      have e9 : sp_take W m = (1, 0, W) := by { unfold sp_take; rw [if_neg (fun q => q.2 (by rw [← gtf_tg (l := 8) hokx]; exact hb40))] }
      rw [e9]
      exact ⟨rfl, ⟨by dsimp only; omega, by dsimp only; omega, by dsimp only; omega⟩, hLr, fun b b0 b1 => hfl b (by omega), by dsimp only; omega⟩
  · replace hb11 := cq_eq.2.mp hb11
    refine e_thr (E := 1) hK rfl rfl rfl rfl ?_
    have e9 : sp_take W m = (1, 0, W) := by { unfold sp_take; rw [if_neg (fun q => hb11 q.1)] }
    rw [e9]
    exact ⟨rfl, ⟨by dsimp only; omega, by dsimp only; omega, by dsimp only; omega⟩, hLr, fun b b0 b1 => hfl b (by omega), by dsimp only; omega⟩
theorem gall_n : ∀ (k : Nat) {A : lg}, gn (gall A k) = gn A
  | 0, _ => rfl
  | k + 1, A => by
    show gn (if glv A = -9999 then A else gall (gle A) k) = gn A
    by_cases h : glv A = -9999
    · rw [if_pos h]
    · rw [if_neg h, gall_n k, (gle_T h).2.2]
set_option maxRecDepth 10000 in
theorem f_simL1 {m : Nat} {W : wt} (hL : LtA m h W) (x0 : Int) (k : Int) (hk : 1 ≤ k ∧ k ≤ 30) (R : lg) : ∀ (m_ : Nat) (i : Nat) (x v : Int) (u : Nat) (D : lg) (hh : mv_H) (a9 a10 a11 : mv_V), (i + m_ = k.toNat ∧ StA hh 170 D ∧ gQ (rfs u m) D ∧ (∀ j : Int, 0 ≤ j → j < 25 → LnW hh (15 + 6 * j)) ∧ (∀ b : Int, (b < 15 ∨ (164 < b ∧ b < 170) ∨ 174 < b) → hh b = h b) ∧ u ≤ gn D ∧ 0 ≤ v ∧ v ≤ 7 + 2 * i ∧ sml m_ x v u D = R) → mv_Ev sc 73 13 [(2, 0), (1, x0), (5, 0), (0, k), (1, x), (5, 0), (0, v), (0, (u : Int)), (0, (i : Int)), a9, a10, a11] [] c hh (fun r c' h' => r = (3, 0) ∧ c' = c ∧ StA h' 170 R ∧ (∀ j : Int, 0 ≤ j → j < 25 → LnW h' (15 + 6 * j)) ∧ ∀ b : Int, (b < 15 ∨ (164 < b ∧ b < 170) ∨ 174 < b) → h' b = h b) := by
  intro m_
  induction m_ with
  | zero =>
    intro i x v u D hh a9 a10 a11 ⟨hi, hD, hq, hl, hf, hu, hv0, hv1, hR⟩
    have hL0 := hL
    obtain ⟨⟨⟨t00, p0, p2, p3, p4, p5, p6, p7, p8, p9, t14, l14, g14, t252, l252, g252a, g252b, t263, l263⟩, hTx, hA, hH, hS0, hS1, hSv, hm, hgR, hgRn, hgRs⟩, hsc⟩ := hL
    have hA0 := hA
    obtain ⟨⟨s1, s2, a0, -, -, -, -, -, -, -, -, -, -⟩, hB, an, aT, -⟩ := hA
    have bn := hB.1
    have bT := hB.2.1
    have g180 := hH.1.1
    have g180n := hH.2.2.1
    have tr170 := hsc.2.2.1.2.2.1
    have hn14 := hH.2.1
    have hN := hTx.2.2.2.2.2.1
    have e0 := hf 0 (by omega)
    have e14 := hf 14 (by omega)
    have hgn := hD.2.1.1
    have hK : (mv_m 73).1 = kc_LT_simulateLines := rfl
    refine e_step (pc' := 15) hK rfl rfl rfl ?_
    refine e_step (pc' := 16) hK rfl rfl rfl ?_
    refine e_icmp (t := 125) (pc' := 19) hK rfl (by first | omega | (have q9 := gtf_b hD.2.1 (smt x v u); omega)) (by first | omega | (have q9 := gtf_b hD.2.1 (smt x v u); omega)) (by decide) rfl (fun hb16 => ?_) (fun hb16 => ?_)
    · replace hb16 := cq_ge.1.mp hb16
      refine e_ret hK rfl rfl rfl ?_
      have hR9 : D = R := hR
      rw [← hR9]
      exact ⟨rfl, rfl, hD, hl, hf⟩
    · replace hb16 := cq_ge.2.mp hb16
      exfalso; first | omega | exact absurd trivial (by assumption) | (first | omega | (have q9 := gtf_b hD.2.1 (smt x v u); omega))
  | succ m_ ih =>
    intro i x v u D hh a9 a10 a11 ⟨hi, hD, hq, hl, hf, hu, hv0, hv1, hR⟩
    have hL0 := hL
    obtain ⟨⟨⟨t00, p0, p2, p3, p4, p5, p6, p7, p8, p9, t14, l14, g14, t252, l252, g252a, g252b, t263, l263⟩, hTx, hA, hH, hS0, hS1, hSv, hm, hgR, hgRn, hgRs⟩, hsc⟩ := hL
    have hA0 := hA
    obtain ⟨⟨s1, s2, a0, -, -, -, -, -, -, -, -, -, -⟩, hB, an, aT, -⟩ := hA
    have bn := hB.1
    have bT := hB.2.1
    have g180 := hH.1.1
    have g180n := hH.2.2.1
    have tr170 := hsc.2.2.1.2.2.1
    have hn14 := hH.2.1
    have hN := hTx.2.2.2.2.2.1
    have e0 := hf 0 (by omega)
    have e14 := hf 14 (by omega)
    have hgn := hD.2.1.1
    have hK : (mv_m 73).1 = kc_LT_simulateLines := rfl
    refine e_step (pc' := 15) hK rfl rfl rfl ?_
    refine e_step (pc' := 16) hK rfl rfl rfl ?_
    refine e_icmp (t := 125) (pc' := 19) hK rfl (by first | omega | (have q9 := gtf_b hD.2.1 (smt x v u); omega)) (by first | omega | (have q9 := gtf_b hD.2.1 (smt x v u); omega)) (by decide) rfl (fun hb16 => ?_) (fun hb16 => ?_)
    · replace hb16 := cq_ge.1.mp hb16
      exfalso; first | omega | exact absurd trivial (by assumption) | (first | omega | (have q9 := gtf_b hD.2.1 (smt x v u); omega))
    · replace hb16 := cq_ge.2.mp hb16
      refine e_step (pc' := 21) hK rfl rfl rfl ?_
      refine e_step (pc' := 22) hK rfl rfl rfl ?_
      refine e_getR (ci := 0) (k := 3) (pc' := 25) hK rfl (by simp (disch := omega) only [t00, p3, p5, t14, l14, g14, e0, e14]) rfl rfl (by decide) (by decide) (by (try simp (disch := omega) only [t00, p3, p5, t14, l14, g14, e0, e14]); first | omega | (have q9 := gtf_b hD.2.1 (smt x v u); omega)) rfl ?_
      try simp (disch := omega) only [t00, p3, p5, t14, l14, g14, e0, e14]
      refine e_alen (pc' := 26) hK rfl (by simp only [t00, p3, p5, t14, l14, g14, e0, e14]; decide) rfl ?_
      try simp (disch := omega) only [t00, p3, p5, t14, l14, g14, e0, e14]
      refine e_icmp (t := 125) (pc' := 29) hK rfl (by first | omega | (have q9 := gtf_b hD.2.1 (smt x v u); omega)) (by first | omega | (have q9 := gtf_b hD.2.1 (smt x v u); omega)) (by decide) rfl (fun hb26 => ?_) (fun hb26 => ?_)
      · replace hb26 := cq_ge.1.mp hb26
        exfalso; first | omega | exact absurd trivial (by assumption) | (first | omega | (have q9 := gtf_b hD.2.1 (smt x v u); omega))
      · replace hb26 := cq_ge.2.mp hb26
        have hrb := smr_b (smx x)
        have hvb := smv_b (x := x) (v := v)
        have hlu := hl (u : Int) (by omega) (by omega)
        have htg := hlu.2.1
        refine e_step (pc' := 31) hK rfl rfl rfl ?_
        refine e_step (pc' := 34) hK rfl rfl rfl ?_
        refine e_step (pc' := 35) hK rfl rfl rfl ?_
        refine e_step (pc' := 38) hK rfl rfl rfl ?_
        refine e_step (pc' := 39) hK rfl rfl rfl ?_
        refine e_step (pc' := 41) hK rfl rfl rfl ?_
        try simp only [List.set_cons_zero, List.set_cons_succ]
        refine e_step (pc' := 43) hK rfl rfl rfl ?_
        refine e_step (pc' := 45) hK rfl rfl rfl ?_
        refine e_step (pc' := 46) hK rfl rfl rfl ?_
        refine e_step (pc' := 47) hK rfl rfl rfl ?_
        have er9 : (x * 6364136223846793005 + 1442695040888963407) % 18446744073709551616 / 2 ^ (33 : Int).toNat = smr (smx x) := rfl
        rw [er9]
        refine e_step (pc' := 49) hK rfl rfl rfl ?_
        try simp only [List.set_cons_zero, List.set_cons_succ]
        refine e_step (pc' := 51) hK rfl rfl rfl ?_
        refine e_step (pc' := 53) hK rfl rfl rfl ?_
        refine e_step (pc' := 54) hK rfl rfl rfl ?_
        refine e_irem (pc' := 55) hK rfl (by first | omega | (have q9 := gtf_b hD.2.1 (smt x v u); omega)) (by first | omega | (have q9 := gtf_b hD.2.1 (smt x v u); omega)) (by first | omega | (have q9 := gtf_b hD.2.1 (smt x v u); omega)) rfl ?_
        refine e_step (pc' := 56) hK rfl rfl rfl ?_
        refine e_step (pc' := 58) hK rfl rfl rfl ?_
        try simp only [List.set_cons_zero, List.set_cons_succ]
        refine e_step (pc' := 59) hK rfl rfl rfl ?_
        refine e_getR (ci := 0) (k := 3) (pc' := 62) hK rfl (by simp (disch := omega) only [t00, p3, p5, t14, l14, g14, e0, e14]) rfl rfl (by decide) (by decide) (by (try simp (disch := omega) only [t00, p3, p5, t14, l14, g14, e0, e14]); first | omega | (have q9 := gtf_b hD.2.1 (smt x v u); omega)) rfl ?_
        try simp (disch := omega) only [t00, p3, p5, t14, l14, g14, e0, e14]
        refine e_step (pc' := 64) hK rfl rfl rfl ?_
        refine e_aald (pc' := 65) hK rfl (by simp (disch := omega) only [t00, p3, p5, t14, l14, g14, e0, e14]; decide) (by first | omega | (have q9 := gtf_b hD.2.1 (smt x v u); omega)) (by (try simp (disch := omega) only [t00, p3, p5, t14, l14, g14, e0, e14]); first | omega | (have q9 := gtf_b hD.2.1 (smt x v u); omega)) (by (try simp (disch := omega) only [t00, p3, p5, t14, l14, g14, e0, e14]); first | omega | (have q9 := gtf_b hD.2.1 (smt x v u); omega)) rfl ?_
        try simp (disch := omega) only [t00, p3, p5, t14, l14, g14, e0, e14]
        refine e_step (pc' := 67) hK rfl rfl rfl ?_
        try simp only [List.set_cons_zero, List.set_cons_succ]
        refine e_step (pc' := 69) hK rfl rfl rfl ?_
        refine e_step (pc' := 71) hK rfl rfl rfl ?_
        refine e_step (pc' := 73) hK rfl rfl rfl ?_
        refine e_cQS3 (z := 74) hK rfl rfl rfl (Nat.le_of_ble_eq_true rfl) (Nat.le_of_ble_eq_true rfl) (c_writeSim hlu (smr (smx x)) (smv x v) hrb.1 hrb.2 (by omega) (by omega)) ?_
        rintro _ _ g1 ⟨rfl, rfl, hw1, hf1⟩
        refine ⟨by decide, ?_⟩
        rw [if_pos rfl]
        have hx1 : LnX g1 (15 + 6 * (u : Int)) (smt x v u) := LnX_tg hw1 ⟨by omega, Or.inl (by omega)⟩
        have hD1 : StA g1 170 D := hD.kg hq (fun b hb => hf1 b (by omega)) (fun y hy b b0 b1 => hf1 b (by unfold rfs rfx at hy; omega))
        have w0 := hf1 0 (by omega)
        have w14 := hf1 14 (by omega)
        have w170 := hD1.1.2.2.1
        have hl1 : ∀ j : Int, 0 ≤ j → j < 25 → LnW g1 (15 + 6 * j) := fun j j0 j1 => by { by_cases e : j = u; rw [e]; exact hw1.1; exact (hl j j0 j1).kq (fun b b0 b1 => hf1 b (by omega)) }
        show mv_Ev _ _ 76 _ _ _ _ _
        refine e_step (pc' := 77) hK rfl rfl rfl ?_
        refine e_getR (ci := 0) (k := 5) (pc' := 80) hK rfl (by simp (disch := omega) only [t00, p3, p5, t14, l14, g14, e0, e14, w0, w170]) rfl rfl (by decide) (by decide) (by (try simp (disch := omega) only [t00, p3, p5, t14, l14, g14, e0, e14, w0, w170]); first | omega | (have q9 := gtf_b hD.2.1 (smt x v u); omega)) rfl ?_
        try simp (disch := omega) only [t00, p3, p5, t14, l14, g14, e0, e14, w0, w170]
        refine e_step (pc' := 82) hK rfl rfl rfl ?_
        refine e_cRV2 (z := 29) (pc' := 85) hK rfl rfl (by first | (simp (disch := omega) only [t00, p3, p5, t14, l14, g14, e0, e14, w0, w170]; rfl) | (show _ = 2; assumption) | (show _ = 1; assumption) | (show _ = 0; assumption) | (show _ = 3; assumption) | (show _ = 4; assumption)) rfl (Nat.le_of_ble_eq_true rfl) (Nat.le_of_ble_eq_true rfl) (c_templateFor hD1 hx1) (by decide) rfl ?_
        try simp (disch := omega) only [t00, p3, p5, t14, l14, g14, e0, e14, w0, w170]
        refine e_step (pc' := 87) hK rfl rfl rfl ?_
        try simp only [List.set_cons_zero, List.set_cons_succ]
        refine e_step (pc' := 89) hK rfl rfl rfl ?_
        refine e_step (pc' := 92) hK rfl rfl rfl ?_
        refine e_icmp (t := 105) (pc' := 95) hK rfl (by first | omega | (have q9 := gtf_b hD.2.1 (smt x v u); omega)) (by first | omega | (have q9 := gtf_b hD.2.1 (smt x v u); omega)) (by decide) rfl (fun hb92 => ?_) (fun hb92 => ?_)
        · replace hb92 := cq_ne.1.mp hb92
          refine e_step (pc' := 106) hK rfl rfl rfl ?_
          refine e_getR (ci := 0) (k := 5) (pc' := 109) hK rfl (by simp (disch := omega) only [t00, p3, p5, t14, l14, g14, e0, e14, w0, w170]) rfl rfl (by decide) (by decide) (by (try simp (disch := omega) only [t00, p3, p5, t14, l14, g14, e0, e14, w0, w170]); first | omega | (have q9 := gtf_b hD.2.1 (smt x v u); omega)) rfl ?_
          try simp (disch := omega) only [t00, p3, p5, t14, l14, g14, e0, e14, w0, w170]
          refine e_step (pc' := 111) hK rfl rfl rfl ?_
          refine e_step (pc' := 113) hK rfl rfl rfl ?_
          refine e_cQV3 (z := 30) hK rfl rfl (by first | (simp (disch := omega) only [t00, p3, p5, t14, l14, g14, e0, e14, w0, w170]; rfl) | (show _ = 2; assumption) | (show _ = 1; assumption) | (show _ = 0; assumption) | (show _ = 3; assumption) | (show _ = 4; assumption)) rfl (Nat.le_of_ble_eq_true rfl) (Nat.le_of_ble_eq_true rfl) (c_put hD1 hx1 _ (by have q9 := gtf_b hD.2.1 (smt x v u); omega)) ?_
          rintro _ _ g2 ⟨rfl, rfl, hs2, hf2⟩
          refine ⟨by decide, ?_⟩
          rw [if_pos rfl]
          show mv_Ev _ _ 116 _ _ _ _ _
          refine e_step (pc' := 119) hK rfl rfl rfl ?_
          try simp only [List.set_cons_zero, List.set_cons_succ]
          refine e_step (pc' := 122) hK rfl rfl rfl ?_
          try simp only [List.set_cons_zero, List.set_cons_succ]
          refine e_goto (t := 13) hK rfl (by decide) ?_
          have e9 : sml (m_ + 1) x v u D = sml m_ (smx x) (smv x v) (u + 1) (gput D (smt x v u) (gtf D (smt x v u))) := if_neg hb92
          have hsm : (smt x v u).2 (-1) = 15 + 6 * (u : Int) := hx1.1.2
          have hq2 : rfs (u + 1) m (smt x v u) := Or.inr ⟨by rw [hsm]; omega, by rw [hsm]; omega⟩
          exact ih (i + 1) (smx x) (smv x v) (u + 1) _ g2 _ _ _ ⟨by omega, hs2, gQ_put (gQ_mo hq (fun y hy => hy.elim Or.inl (fun q => Or.inr ⟨q.1, by omega⟩))) hq2, fun j j0 j1 => (hl1 j j0 j1).kq (fun b b0 b1 => hf2 b (by omega)), fun b hb => (hf2 b (by omega)).trans ((hf1 b (by omega)).trans (hf b hb)), by rw [gput_w hb92 hD.2.1.2.1, gpu_n]; omega, by omega, by omega, by rw [← e9]; exact hR⟩
        · replace hb92 := cq_ne.2.mp hb92
          refine e_step (pc' := 96) hK rfl rfl rfl ?_
          refine e_getR (ci := 0) (k := 5) (pc' := 99) hK rfl (by simp (disch := omega) only [t00, p3, p5, t14, l14, g14, e0, e14, w0, w170]) rfl rfl (by decide) (by decide) (by (try simp (disch := omega) only [t00, p3, p5, t14, l14, g14, e0, e14, w0, w170]); first | omega | (have q9 := gtf_b hD.2.1 (smt x v u); omega)) rfl ?_
          try simp (disch := omega) only [t00, p3, p5, t14, l14, g14, e0, e14, w0, w170]
          refine e_cQS1 (z := 100) hK rfl rfl rfl (Nat.le_of_ble_eq_true rfl) (Nat.le_of_ble_eq_true rfl) (c_learnAll hD1) ?_
          rintro _ _ g2 ⟨rfl, rfl, hs2, hf2⟩
          refine ⟨by decide, ?_⟩
          rw [if_pos rfl]
          show mv_Ev _ _ 102 _ _ _ _ _
          refine e_goto (t := 119) hK rfl (by decide) ?_
          refine e_step (pc' := 122) hK rfl rfl rfl ?_
          try simp only [List.set_cons_zero, List.set_cons_succ]
          refine e_goto (t := 13) hK rfl (by decide) ?_
          have e9 : sml (m_ + 1) x v u D = sml m_ (smx x) (smv x v) u (gall D 12) := if_pos hb92
          exact ih (i + 1) (smx x) (smv x v) u (gall D 12) g2 _ _ _ ⟨by omega, hs2, gQ_gall 12 hq, fun j j0 j1 => (hl1 j j0 j1).kq (fun b b0 b1 => hf2 b (by omega)), fun b hb => (hf2 b (by omega)).trans ((hf1 b (by omega)).trans (hf b hb)), by rw [gall_n]; exact hu, by omega, by omega, by rw [← e9]; exact hR⟩
set_option maxRecDepth 10000 in
theorem f_simL {m : Nat} {W : wt} (hL : LtA m h W) (x0 : Int) (k : Int) (hk : 1 ≤ k ∧ k ≤ 30) (hD : StA h 170 (wA W)) : mv_Cl sc q_LT_simulateLines [(2, 0), (1, x0), (0, k)] c h (fun r c' h' => r = (3, 0) ∧ c' = c ∧ StA h' 170 (sml k.toNat x0 7 0 (wA W)) ∧ (∀ j : Int, 0 ≤ j → j < 25 → LnW h' (15 + 6 * j)) ∧ ∀ b : Int, (b < 15 ∨ (164 < b ∧ b < 170) ∨ 174 < b) → h' b = h b) := by
  have hL0 := hL
  obtain ⟨⟨⟨t00, p0, p2, p3, p4, p5, p6, p7, p8, p9, t14, l14, g14, t252, l252, g252a, g252b, t263, l263⟩, hTx, hA, hH, hS0, hS1, hSv, hm, hgR, hgRn, hgRs⟩, hsc⟩ := hL
  have hA0 := hA
  obtain ⟨⟨s1, s2, a0, -, -, -, -, -, -, -, -, -, -⟩, hB, an, aT, -⟩ := hA
  have bn := hB.1
  have bT := hB.2.1
  have g180 := hH.1.1
  have g180n := hH.2.2.1
  have tr170 := hsc.2.2.1.2.2.1
  have hn14 := hH.2.1
  have hN := hTx.2.2.2.2.2.1
  show mv_Ev sc 73 0 [(2, 0), (1, x0), (5, 0), (0, k), (5, 0), (5, 0), (5, 0), (5, 0), (5, 0), (5, 0), (5, 0), (5, 0)] [] c h _
  have hK : (mv_m 73).1 = kc_LT_simulateLines := rfl
  refine e_step (pc' := 1) hK rfl rfl rfl ?_
  refine e_step (pc' := 3) hK rfl rfl rfl ?_
  try simp only [List.set_cons_zero, List.set_cons_succ]
  refine e_step (pc' := 5) hK rfl rfl rfl ?_
  refine e_step (pc' := 7) hK rfl rfl rfl ?_
  try simp only [List.set_cons_zero, List.set_cons_succ]
  refine e_step (pc' := 8) hK rfl rfl rfl ?_
  refine e_step (pc' := 10) hK rfl rfl rfl ?_
  try simp only [List.set_cons_zero, List.set_cons_succ]
  refine e_step (pc' := 11) hK rfl rfl rfl ?_
  refine e_step (pc' := 13) hK rfl rfl rfl ?_
  try simp only [List.set_cons_zero, List.set_cons_succ]
  exact f_simL1 hL0 x0 k hk _ k.toNat 0 x0 7 0 (wA W) h _ _ _ ⟨by omega, hD, gQ_mo hgR (fun y hy => Or.inl hy), hsc.2.1, fun b _ => rfl, Nat.zero_le _, by omega, by omega, rfl⟩
set_option maxRecDepth 10000 in
theorem f_sim {m : Nat} {W : wt} (hL : LtA m h W) (x0 : Int) (k : Int) (hk : mv_i k) : mv_Cl sc q_LT_simulate [(2, 0), (1, x0), (0, k)] c h (fun r c' h' => r = clr 0 9 (sp_sim W x0 k).1 (sp_sim W x0 k).2.1 ∧ c' = cck (sp_sim W x0 k).1 c ∧ LtA m h' (sp_sim W x0 k).2.2 ∧ (∀ b : Int, 264 ≤ b → b ≤ 276 → h' b = h b) ∧ mv_i (sp_sim W x0 k).2.1) := by
  have hL0 := hL
  obtain ⟨⟨⟨t00, p0, p2, p3, p4, p5, p6, p7, p8, p9, t14, l14, g14, t252, l252, g252a, g252b, t263, l263⟩, hTx, hA, hH, hS0, hS1, hSv, hm, hgR, hgRn, hgRs⟩, hsc⟩ := hL
  have hA0 := hA
  obtain ⟨⟨s1, s2, a0, -, -, -, -, -, -, -, -, -, -⟩, hB, an, aT, -⟩ := hA
  have bn := hB.1
  have bT := hB.2.1
  have g180 := hH.1.1
  have g180n := hH.2.2.1
  have tr170 := hsc.2.2.1.2.2.1
  have hn14 := hH.2.1
  have hN := hTx.2.2.2.2.2.1
  show mv_Ev sc 72 0 [(2, 0), (1, x0), (5, 0), (0, k)] [] c h _
  have hK : (mv_m 72).1 = kc_LT_simulate := rfl
  refine e_step (pc' := 1) hK rfl rfl rfl ?_
  refine e_step (pc' := 2) hK rfl rfl rfl ?_
  refine e_icmp (t := 11) (pc' := 5) hK rfl (by first | omega | (have q9 := cal_b hsD.2.1; omega)) (by first | omega | (have q9 := cal_b hsD.2.1; omega)) (by decide) rfl (fun hb2 => ?_) (fun hb2 => ?_)
  · replace hb2 := cq_lt.1.mp hb2
    refine e_thr (E := 0) hK rfl rfl rfl rfl ?_
    have e9 : sp_sim W x0 k = (1, 0, W) := by { unfold sp_sim; (repeat (first | rw [if_pos (by omega)] | rw [if_neg (by omega)])) }
    rw [e9]
    refine ⟨rfl, rfl, hL0, fun b _ _ => rfl, ?_⟩
    dsimp only
    omega
  · replace hb2 := cq_lt.2.mp hb2
    refine e_step (pc' := 6) hK rfl rfl rfl ?_
    refine e_step (pc' := 8) hK rfl rfl rfl ?_
    refine e_icmp (t := 22) (pc' := 11) hK rfl (by first | omega | (have q9 := cal_b hsD.2.1; omega)) (by first | omega | (have q9 := cal_b hsD.2.1; omega)) (by decide) rfl (fun hb8 => ?_) (fun hb8 => ?_)
    · replace hb8 := cq_le.1.mp hb8
      refine e_step (pc' := 23) hK rfl rfl rfl ?_
      refine e_getR (ci := 0) (k := 5) (pc' := 26) hK rfl (by simp (disch := omega) only [t00, p0, p2, p3, p4, p5, p6, p7, p8, p9, a0, an, aT, g180, g180n, tr170]) rfl rfl (by decide) (by decide) (by (try simp (disch := omega) only [t00, p0, p2, p3, p4, p5, p6, p7, p8, p9, a0, an, aT, g180, g180n, tr170]); first | omega | (have q9 := cal_b hsD.2.1; omega)) rfl ?_
      try simp (disch := omega) only [t00, p0, p2, p3, p4, p5, p6, p7, p8, p9, a0, an, aT, g180, g180n, tr170]
      refine e_step (pc' := 27) hK rfl rfl rfl ?_
      refine e_getR (ci := 0) (k := 4) (pc' := 30) hK rfl (by simp (disch := omega) only [t00, p0, p2, p3, p4, p5, p6, p7, p8, p9, a0, an, aT, g180, g180n, tr170]) rfl rfl (by decide) (by decide) (by (try simp (disch := omega) only [t00, p0, p2, p3, p4, p5, p6, p7, p8, p9, a0, an, aT, g180, g180n, tr170]); first | omega | (have q9 := cal_b hsD.2.1; omega)) rfl ?_
      try simp (disch := omega) only [t00, p0, p2, p3, p4, p5, p6, p7, p8, p9, a0, an, aT, g180, g180n, tr170]
      refine e_cQV2 (z := 16) hK rfl rfl (by first | (simp (disch := omega) only [t00, p0, p2, p3, p4, p5, p6, p7, p8, p9, a0, an, aT, g180, g180n, tr170]; rfl) | (show _ = 2; assumption) | (show _ = 1; assumption) | (show _ = 0; assumption) | (show _ = 3; assumption) | (show _ = 4; assumption)) rfl (Nat.le_of_ble_eq_true rfl) (Nat.le_of_ble_eq_true rfl) (c_copyW hsc.2.2.1 hA0 (by omega)) ?_
      rintro _ _ g0 ⟨rfl, rfl, hs0, hf0⟩
      refine ⟨by decide, ?_⟩
      rw [if_pos rfl]
      have u0 := hf0 0 (by omega)
      have hL1 := hL0.tr hs0.1 hf0
      show mv_Ev _ _ 33 _ _ _ _ _
      refine e_step (pc' := 34) hK rfl rfl rfl ?_
      refine e_step (pc' := 35) hK rfl rfl rfl ?_
      refine e_step (pc' := 36) hK rfl rfl rfl ?_
      refine e_cQV3 (z := 73) hK rfl rfl (by first | (simp (disch := omega) only [t00, p0, p2, p3, p4, p5, p6, p7, p8, p9, a0, an, aT, g180, g180n, tr170, u0]; rfl) | (show _ = 2; assumption) | (show _ = 1; assumption) | (show _ = 0; assumption) | (show _ = 3; assumption) | (show _ = 4; assumption)) rfl (Nat.le_of_ble_eq_true rfl) (Nat.le_of_ble_eq_true rfl) (f_simL hL1 x0 k (by omega) hs0) ?_
      rintro _ _ g1 ⟨rfl, rfl, hsD, hlD, hfD⟩
      refine ⟨by decide, ?_⟩
      rw [if_pos rfl]
      have v0 := hfD 0 (by omega)
      have g170 := hsD.1.2.2.1
      have g170T := hsD.2.2.2.1
      show mv_Ev _ _ 39 _ _ _ _ _
      refine e_step (pc' := 42) hK rfl rfl rfl ?_
      refine e_step (pc' := 43) hK rfl rfl rfl ?_
      refine e_getR (ci := 0) (k := 5) (pc' := 46) hK rfl (by simp (disch := omega) only [t00, p0, p2, p3, p4, p5, p6, p7, p8, p9, a0, an, aT, g180, g180n, tr170, u0, v0, g170, g170T]) rfl rfl (by decide) (by decide) (by (try simp (disch := omega) only [t00, p0, p2, p3, p4, p5, p6, p7, p8, p9, a0, an, aT, g180, g180n, tr170, u0, v0, g170, g170T]); first | omega | (have q9 := cal_b hsD.2.1; omega)) rfl ?_
      try simp (disch := omega) only [t00, p0, p2, p3, p4, p5, p6, p7, p8, p9, a0, an, aT, g180, g180n, tr170, u0, v0, g170, g170T]
      refine e_getI (ci := 2) (k := 6) (pc' := 49) hK rfl (by simp (disch := omega) only [t00, p0, p2, p3, p4, p5, p6, p7, p8, p9, a0, an, aT, g180, g180n, tr170, u0, v0, g170, g170T]) rfl rfl (by decide) (by decide) rfl ?_
      try simp (disch := omega) only [t00, p0, p2, p3, p4, p5, p6, p7, p8, p9, a0, an, aT, g180, g180n, tr170, u0, v0, g170, g170T]
      refine e_step (pc' := 50) hK rfl rfl rfl ?_
      refine e_step (pc' := 51) hK rfl rfl rfl ?_
      refine e_getR (ci := 0) (k := 5) (pc' := 54) hK rfl (by simp (disch := omega) only [t00, p0, p2, p3, p4, p5, p6, p7, p8, p9, a0, an, aT, g180, g180n, tr170, u0, v0, g170, g170T]) rfl rfl (by decide) (by decide) (by (try simp (disch := omega) only [t00, p0, p2, p3, p4, p5, p6, p7, p8, p9, a0, an, aT, g180, g180n, tr170, u0, v0, g170, g170T]); first | omega | (have q9 := cal_b hsD.2.1; omega)) rfl ?_
      try simp (disch := omega) only [t00, p0, p2, p3, p4, p5, p6, p7, p8, p9, a0, an, aT, g180, g180n, tr170, u0, v0, g170, g170T]
      refine e_cRS1 (z := 80) (pc' := 57) hK rfl rfl rfl (Nat.le_of_ble_eq_true rfl) (Nat.le_of_ble_eq_true rfl) (c_ofAll hsD) (by decide) rfl ?_
      try simp (disch := omega) only [t00, p0, p2, p3, p4, p5, p6, p7, p8, p9, a0, an, aT, g180, g180n, tr170, u0, v0, g170, g170T]
      refine e_step (pc' := 60) hK rfl rfl rfl ?_
      refine e_cRS2 (z := 2) (pc' := 63) hK rfl rfl rfl (Nat.le_of_ble_eq_true rfl) (Nat.le_of_ble_eq_true rfl) (c_min _ _ (by have q9 := cal_b hsD.2.1; omega) (by omega)) (by decide) rfl ?_
      try simp (disch := omega) only [t00, p0, p2, p3, p4, p5, p6, p7, p8, p9, a0, an, aT, g180, g180n, tr170, u0, v0, g170, g170T]
      refine e_step (pc' := 64) hK rfl rfl rfl ?_
      refine e_ret hK rfl rfl rfl ?_
      have e9 : sp_sim W x0 k = (0, 1000 * (gT (sml k.toNat x0 7 0 (wA W)) : Int) + (if cal (sml k.toNat x0 7 0 (wA W)) ≤ 999 then cal (sml k.toNat x0 7 0 (wA W)) else 999), W) := by { unfold sp_sim; rw [if_pos ⟨by omega, by omega⟩] }
      rw [e9]
      have hLD : LtA m g1 W := ⟨hL1.1.kq (fun b hb => hfD b (by unfold csb at hb; omega)), hL1.2.1.kq (fun b b0 b1 => hfD b (by omega)), hlD, hsD.1, hL1.2.2.2.2.kq (fun b hb => hfD b (by omega))⟩
      have q9 := cal_b hsD.2.1
      have q8 := hsD.2.1.2.1
      refine ⟨rfl, rfl, hLD, fun b b0 b1 => (hfD b (by omega)).trans (hf0 b (by omega)), ?_⟩
      dsimp only
      split <;> omega
    · replace hb8 := cq_le.2.mp hb8
      refine e_thr (E := 0) hK rfl rfl rfl rfl ?_
      have e9 : sp_sim W x0 k = (1, 0, W) := by { unfold sp_sim; (repeat (first | rw [if_pos (by omega)] | rw [if_neg (by omega)])) }
      rw [e9]
      refine ⟨rfl, rfl, hL0, fun b _ _ => rfl, ?_⟩
      dsimp only
      omega
set_option maxRecDepth 10000 in
theorem f_run1 {m : Nat} {W : wt} (hL : LtA m h W) (n s : Int) (hn : 1 ≤ n ∧ n ≤ 4) (hs0 : 0 ≤ s) (hs : mv_l s) (R : Int) : ∀ (m_ : Nat) (i : Nat) (D : lg) (hh : mv_H) (a5 : mv_V), (i + m_ = n.toNat ∧ StA hh 170 D ∧ StW hh 175 ∧ LtA m hh W ∧ (∀ b : Int, 264 ≤ b → b ≤ 276 → hh b = h b) ∧ scr s n m_ D = R) → mv_Ev sc 71 60 [(2, 0), (0, n), (1, s), (5, 0), (0, (i : Int)), a5] [] c hh (fun r c' h' => r = (0, R) ∧ c' = c ∧ LtA m h' W ∧ ∀ b : Int, 264 ≤ b → b ≤ 276 → h' b = h b) := by
  intro m_
  induction m_ with
  | zero =>
    intro i D hh a5 ⟨hi, hD, hw, hLh, hf, hR⟩
    have hq0 := hLh.1.1
    have r00 := hq0.1
    have r5 := hq0.2.2.2.2.2.1
    have r6 := hq0.2.2.2.2.2.2.1
    have hK : (mv_m 71).1 = kc_LT_runScript := rfl
    refine e_step (pc' := 62) hK rfl rfl rfl ?_
    refine e_step (pc' := 63) hK rfl rfl rfl ?_
    refine e_icmp (t := 108) (pc' := 66) hK rfl (by first | omega | exact bo_i _) (by first | omega | exact bo_i _) (by decide) rfl (fun hb63 => ?_) (fun hb63 => ?_)
    · replace hb63 := cq_ge.1.mp hb63
      try simp only [bo_0, Bool.not_eq_false] at hb63
      refine e_step (pc' := 111) hK rfl rfl rfl ?_
      refine e_ret hK rfl rfl rfl ?_
      rw [← hR]
      exact ⟨rfl, rfl, hLh, hf⟩
    · replace hb63 := cq_ge.2.mp hb63
      try simp only [bo_0, Bool.not_eq_false] at hb63
      exfalso; first | omega | exact absurd trivial (by assumption) | (first | omega | exact bo_i _)
  | succ m_ ih =>
    intro i D hh a5 ⟨hi, hD, hw, hLh, hf, hR⟩
    have hq0 := hLh.1.1
    have r00 := hq0.1
    have r5 := hq0.2.2.2.2.2.1
    have r6 := hq0.2.2.2.2.2.2.1
    have hK : (mv_m 71).1 = kc_LT_runScript := rfl
    refine e_step (pc' := 62) hK rfl rfl rfl ?_
    refine e_step (pc' := 63) hK rfl rfl rfl ?_
    refine e_icmp (t := 108) (pc' := 66) hK rfl (by first | omega | exact bo_i _) (by first | omega | exact bo_i _) (by decide) rfl (fun hb63 => ?_) (fun hb63 => ?_)
    · replace hb63 := cq_ge.1.mp hb63
      try simp only [bo_0, Bool.not_eq_false] at hb63
      exfalso; first | omega | exact absurd trivial (by assumption) | (first | omega | exact bo_i _)
    · replace hb63 := cq_ge.2.mp hb63
      try simp only [bo_0, Bool.not_eq_false] at hb63
      have hsb := sg4_b hs0 hs m_
      refine e_step (pc' := 67) hK rfl rfl rfl ?_
      refine e_step (pc' := 68) hK rfl rfl rfl ?_
      refine e_step (pc' := 69) hK rfl rfl rfl ?_
      refine e_step (pc' := 70) hK rfl rfl rfl ?_
      refine e_step (pc' := 72) hK rfl rfl rfl ?_
      refine e_step (pc' := 73) hK rfl rfl rfl ?_
      refine e_cRS2 (z := 101) (pc' := 76) hK rfl rfl rfl (Nat.le_of_ble_eq_true rfl) (Nat.le_of_ble_eq_true rfl) (c_groups s (n - 1 - (i : Int)) hs0 hs (by omega)) (by decide) rfl ?_
      try simp (disch := omega) only [r00, r5, r6]
      have e1 : (n - 1 - (i : Int)).toNat = m_ := by omega
      rw [e1]
      refine e_step (pc' := 79) hK rfl rfl rfl ?_
      refine e_lrem (pc' := 80) hK rfl (by first | omega | exact bo_i _) (by first | omega | exact bo_i _) (by first | omega | exact bo_i _) rfl ?_
      refine e_step (pc' := 81) hK rfl rfl rfl ?_
      have e2 : (sg4 s m_).tmod 10000 = sg4 s m_ % 10000 := Int.tmod_eq_emod_of_nonneg hsb.1
      refine e_step (pc' := 83) hK rfl rfl rfl ?_
      try simp only [List.set_cons_zero, List.set_cons_succ]
      refine e_step (pc' := 85) hK rfl rfl rfl ?_
      refine e_step (pc' := 86) hK rfl rfl rfl ?_
      refine e_getR (ci := 0) (k := 5) (pc' := 89) hK rfl (by simp (disch := omega) only [r00, r5, r6]) rfl rfl (by decide) (by decide) (by (try simp (disch := omega) only [r00, r5, r6]); first | omega | exact bo_i _) rfl ?_
      try simp (disch := omega) only [r00, r5, r6]
      refine e_step (pc' := 90) hK rfl rfl rfl ?_
      refine e_getR (ci := 0) (k := 6) (pc' := 93) hK rfl (by simp (disch := omega) only [r00, r5, r6]) rfl rfl (by decide) (by decide) (by (try simp (disch := omega) only [r00, r5, r6]); first | omega | exact bo_i _) rfl ?_
      try simp (disch := omega) only [r00, r5, r6]
      refine e_cQS3 (z := 102) hK rfl rfl rfl (Nat.le_of_ble_eq_true rfl) (Nat.le_of_ble_eq_true rfl) (c_succeeds hD hw (by omega) ((sg4 s m_).tmod 10000) (by omega) (by omega)) ?_
      rintro _ _ g1 ⟨rfl, rfl, hs1, hw1, hf1⟩
      refine ⟨by show (0 : Nat) ≠ 4; decide, ?_⟩
      rw [if_neg (by show ¬ (0 : Nat) = 3; decide)]
      try dsimp only
      have hL1 := hLh.tr2 hs1.1 hw1 (fun b hb => hf1 b (by omega))
      show mv_Ev _ _ 96 _ _ _ _ _
      refine e_if (t := 102) (pc' := 99) hK rfl (by first | omega | exact bo_i _) (by decide) rfl (fun hb96 => ?_) (fun hb96 => ?_)
      · replace hb96 := cq_ne.1.mp hb96
        try simp only [bo_0, Bool.not_eq_false] at hb96
        refine e_step (pc' := 105) hK rfl rfl rfl ?_
        try simp only [List.set_cons_zero, List.set_cons_succ]
        refine e_goto (t := 60) hK rfl (by decide) ?_
        have e9 : scr s n (m_ + 1) D = scr s n m_ (gcm D (((sg4 s m_).tmod 10000).tdiv 1000) (((sg4 s m_).tmod 10000).tmod 1000)).2 := if_pos hb96
        exact ih (i + 1) _ g1 _ ⟨by omega, hs1, hw1, hL1, fun b b0 b1 => (hf1 b (by omega)).trans (hf b b0 b1), by rw [← e9]; exact hR⟩
      · replace hb96 := cq_ne.2.mp hb96
        try simp only [bo_0, Bool.not_eq_false] at hb96
        refine e_step (pc' := 101) hK rfl rfl rfl ?_
        refine e_ret hK rfl rfl rfl ?_
        have e9 : scr s n (m_ + 1) D = n - ((m_ + 1 : Nat) : Int) := if_neg (by rw [hb96]; decide)
        refine ⟨?_, rfl, hL1, fun b b0 b1 => (hf1 b (by omega)).trans (hf b b0 b1)⟩
        rw [← hR, e9]
        congr 1
        omega
set_option maxRecDepth 10000 in
theorem f_run {m : Nat} {W : wt} (hL : LtA m h W) (n s : Int) (hn : mv_i n) (hs : mv_l s) : mv_Cl sc q_LT_runScript [(2, 0), (0, n), (1, s)] c h (fun r c' h' => r = clr 0 9 (sp_run W n s).1 (sp_run W n s).2.1 ∧ c' = cck (sp_run W n s).1 c ∧ LtA m h' (sp_run W n s).2.2 ∧ (∀ b : Int, 264 ≤ b → b ≤ 276 → h' b = h b) ∧ mv_i (sp_run W n s).2.1) := by
  have hL0 := hL
  obtain ⟨⟨⟨t00, p0, p2, p3, p4, p5, p6, p7, p8, p9, t14, l14, g14, t252, l252, g252a, g252b, t263, l263⟩, hTx, hA, hH, hS0, hS1, hSv, hm, hgR, hgRn, hgRs⟩, hsc⟩ := hL
  have hA0 := hA
  obtain ⟨⟨s1, s2, a0, -, -, -, -, -, -, -, -, -, -⟩, hB, an, aT, -⟩ := hA
  have bn := hB.1
  have bT := hB.2.1
  have g180 := hH.1.1
  have g180n := hH.2.2.1
  have tr170 := hsc.2.2.1.2.2.1
  have hn14 := hH.2.1
  have hN := hTx.2.2.2.2.2.1
  show mv_Ev sc 71 0 [(2, 0), (0, n), (1, s), (5, 0), (5, 0), (5, 0)] [] c h _
  have hK : (mv_m 71).1 = kc_LT_runScript := rfl
  refine e_step (pc' := 1) hK rfl rfl rfl ?_
  refine e_step (pc' := 2) hK rfl rfl rfl ?_
  refine e_icmp (t := 10) (pc' := 5) hK rfl (by omega) (by omega) (by decide) rfl (fun hb2 => ?_) (fun hb2 => ?_)
  · replace hb2 := cq_lt.1.mp hb2
    refine e_thr (E := 0) hK rfl rfl rfl rfl ?_
    have e9 : sp_run W n s = (1, 0, W) := by { unfold sp_run; (repeat (first | rw [if_pos (by omega)] | rw [if_neg (by omega)])) }
    rw [e9]
    refine ⟨rfl, rfl, hL0, fun b _ _ => rfl, ?_⟩
    dsimp only
    omega
  · replace hb2 := cq_lt.2.mp hb2
    refine e_step (pc' := 6) hK rfl rfl rfl ?_
    refine e_step (pc' := 7) hK rfl rfl rfl ?_
    refine e_icmp (t := 20) (pc' := 10) hK rfl (by omega) (by omega) (by decide) rfl (fun hb7 => ?_) (fun hb7 => ?_)
    · replace hb7 := cq_le.1.mp hb7
      have cl1 := cL_b s 0
      refine e_step (pc' := 21) hK rfl rfl rfl ?_
      refine e_step (pc' := 22) hK rfl rfl rfl ?_
      show mv_Ev _ _ 22 _ ((1, (0 : Int)) :: _) _ _ _
      refine e_lcmp (pc' := 23) hK rfl (by omega) (by omega) rfl ?_
      refine e_if (t := 36) (pc' := 26) hK rfl (by omega) (by decide) rfl (fun hb23 => ?_) (fun hb23 => ?_)
      · replace hb23 := cq_lt.1.mp hb23
        refine e_thr (E := 0) hK rfl rfl rfl rfl ?_
        have e9 : sp_run W n s = (1, 0, W) := by { unfold sp_run; (repeat (first | rw [if_pos (by omega)] | rw [if_neg (by omega)])) }
        rw [e9]
        refine ⟨rfl, rfl, hL0, fun b _ _ => rfl, ?_⟩
        dsimp only
        omega
      · replace hb23 := cq_lt.2.mp hb23
        refine e_step (pc' := 27) hK rfl rfl rfl ?_
        refine e_step (pc' := 28) hK rfl rfl rfl ?_
        refine e_cRS2 (z := 101) (pc' := 31) hK rfl rfl rfl (Nat.le_of_ble_eq_true rfl) (Nat.le_of_ble_eq_true rfl) (c_groups s n (by omega) hs hn) (by decide) rfl ?_
        try simp (disch := omega) only [t00, p0, p2, p3, p4, p5, p6, p7, p8, p9, a0, an, aT, g180, g180n, tr170]
        have cl2 := cL_b (sg4 s n.toNat) 0
        have sgb := sg4_b (v := s) (by omega) hs n.toNat
        refine e_step (pc' := 32) hK rfl rfl rfl ?_
        show mv_Ev _ _ 32 _ ((1, (0 : Int)) :: _) _ _ _
        refine e_lcmp (pc' := 33) hK rfl (by omega) (by omega) rfl ?_
        refine e_if (t := 46) (pc' := 36) hK rfl (by omega) (by decide) rfl (fun hb33 => ?_) (fun hb33 => ?_)
        · replace hb33 := cq_eq.1.mp hb33
          refine e_step (pc' := 47) hK rfl rfl rfl ?_
          refine e_getR (ci := 0) (k := 5) (pc' := 50) hK rfl (by simp (disch := omega) only [t00, p0, p2, p3, p4, p5, p6, p7, p8, p9, a0, an, aT, g180, g180n, tr170]) rfl rfl (by decide) (by decide) (by (try simp (disch := omega) only [t00, p0, p2, p3, p4, p5, p6, p7, p8, p9, a0, an, aT, g180, g180n, tr170]); omega) rfl ?_
          try simp (disch := omega) only [t00, p0, p2, p3, p4, p5, p6, p7, p8, p9, a0, an, aT, g180, g180n, tr170]
          refine e_step (pc' := 51) hK rfl rfl rfl ?_
          refine e_getR (ci := 0) (k := 4) (pc' := 54) hK rfl (by simp (disch := omega) only [t00, p0, p2, p3, p4, p5, p6, p7, p8, p9, a0, an, aT, g180, g180n, tr170]) rfl rfl (by decide) (by decide) (by (try simp (disch := omega) only [t00, p0, p2, p3, p4, p5, p6, p7, p8, p9, a0, an, aT, g180, g180n, tr170]); omega) rfl ?_
          try simp (disch := omega) only [t00, p0, p2, p3, p4, p5, p6, p7, p8, p9, a0, an, aT, g180, g180n, tr170]
          refine e_cQV2 (z := 16) hK rfl rfl (by first | (simp (disch := omega) only [t00, p0, p2, p3, p4, p5, p6, p7, p8, p9, a0, an, aT, g180, g180n, tr170]; rfl) | (show _ = 2; assumption) | (show _ = 1; assumption) | (show _ = 0; assumption) | (show _ = 3; assumption) | (show _ = 4; assumption)) rfl (Nat.le_of_ble_eq_true rfl) (Nat.le_of_ble_eq_true rfl) (c_copyW hsc.2.2.1 hA0 (by omega)) ?_
          rintro _ _ g0 ⟨rfl, rfl, hs0, hf0⟩
          refine ⟨by decide, ?_⟩
          rw [if_pos rfl]
          have u0 := hf0 0 (by omega)
          have hL1 := hL0.tr hs0.1 hf0
          show mv_Ev _ _ 57 _ _ _ _ _
          refine e_step (pc' := 58) hK rfl rfl rfl ?_
          refine e_step (pc' := 60) hK rfl rfl rfl ?_
          try simp only [List.set_cons_zero, List.set_cons_succ]
          have hz : sg4 s n.toNat = 0 := by omega
          have e9 : sp_run W n s = (0, scr s n n.toNat (wA W), W) := by { unfold sp_run; rw [if_pos ⟨⟨by omega, by omega⟩, by omega, hz⟩] }
          rw [e9]
          have hsb := scr_b s n (by omega) (by omega) n.toNat (wA W) (by omega)
          refine (f_run1 hL1 n s ⟨by omega, by omega⟩ (by omega) hs _ n.toNat 0 (wA W) g0 _ ⟨by omega, hs0, hL1.2.2.2.2, hL1, fun b _ _ => rfl, rfl⟩).mono (fun r c' h' hq => ?_)
          obtain ⟨rfl, rfl, q3, q4⟩ := hq
          exact ⟨rfl, rfl, q3, fun b b0 b1 => (q4 b b0 b1).trans (hf0 b (by omega)), by dsimp only; omega⟩
        · replace hb33 := cq_eq.2.mp hb33
          refine e_thr (E := 0) hK rfl rfl rfl rfl ?_
          have e9 : sp_run W n s = (1, 0, W) := by { unfold sp_run; (repeat (first | rw [if_pos (by omega)] | rw [if_neg (by omega)])) }
          rw [e9]
          refine ⟨rfl, rfl, hL0, fun b _ _ => rfl, ?_⟩
          dsimp only
          omega
    · replace hb7 := cq_le.2.mp hb7
      refine e_thr (E := 0) hK rfl rfl rfl rfl ?_
      have e9 : sp_run W n s = (1, 0, W) := by { unfold sp_run; (repeat (first | rw [if_pos (by omega)] | rw [if_neg (by omega)])) }
      rw [e9]
      refine ⟨rfl, rfl, hL0, fun b _ _ => rfl, ?_⟩
      dsimp only
      omega
end FD
