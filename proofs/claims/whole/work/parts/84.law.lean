/-! the law from nothing (written by wip/whole/m84.py) -/
section GQ
variable {sc : Int × (Int → Int)} {c : mv_C} {h : mv_H}
theorem gI_z0 : gI ge0 := ⟨by decide, by decide, fun i q0 q1 => by { have q1 : i < 0 := q1; omega }, fun i q0 q1 => by { have q1 : i < 0 := q1; omega }⟩
theorem MdA_0 : MdA (fun _ _ => 0) ((0, fun _ => 0, ge0, 0, fun _ => ge0, fun _ => false, fun _ => ge0) : wt) :=
  ⟨⟨rfl, Nat.zero_le _, fun k q0 q1 => by { have q1 : k < 0 := q1; omega }, fun k q0 q1 => by { have q1 : k < 0 := q1; omega }⟩, ⟨rfl, rfl, fun i q0 q1 => by { have q1 : i < 0 := q1; omega }, fun i q0 q1 => by { have q1 : i < 0 := q1; omega }⟩, ⟨gI_z0, by decide, by decide⟩, ⟨Nat.zero_le _, rfl, fun i q0 q1 => by { have q1 : i < 0 := q1; omega }⟩, fun i q0 q1 => by { have q1 : i < 0 := q1; omega }, fun s _ => ⟨rfl, fun e => by cases e⟩⟩
set_option maxRecDepth 10000 in
theorem law_run (hs : ∀ j : Int, mv_i (sc.2 j)) (hb : 0 ≤ sc.1 ∧ sc.1 ≤ 2048) : mv_Cl sc q_Law_law [(4, 0)] (0, 0, 0) mv_h0 (fun r c' _ => r = (0, 1) ∧ c'.2.1 ≤ 601024 ∧ c'.2.2 ≤ 7293034) := by
  show mv_Ev sc 205 0 [(4, 0), (5, 0), (5, 0), (5, 0), (5, 0), (5, 0), (5, 0)] [] (0, 0, 0) mv_h0 _
  have hK : (mv_m 205).1 = kc_Law_law := rfl
  refine e_new (ci := 0) (pc' := 3) hK rfl rfl (by decide) rfl ?_
  refine e_step (pc' := 4) hK rfl rfl rfl ?_
  refine e_cQI1 (z := 39) hK rfl rfl rfl (Nat.le_of_ble_eq_true rfl) (Nat.le_of_ble_eq_true rfl) (f_init 1 (0 + mv_fn 0) (uo_e rfl)) ?_
  rintro _ ⟨n1, o1, s1⟩ h1 ⟨rfl, hn1, y1, y2, hL⟩
  have hn1 : n1 = 264 := hn1
  subst hn1
  have y1 : o1 ≤ 1 + 270 := y1
  have y2 : s1 ≤ 0 + mv_fn 0 + 4200 := y2
  refine ⟨by decide, ?_⟩
  rw [if_pos rfl]
  show mv_Ev _ _ 7 _ _ _ _ _
  refine e_step (pc' := 8) hK rfl rfl rfl ?_
  try simp only [List.set_cons_zero, List.set_cons_succ]
  refine e_new (ci := 4) (pc' := 11) hK rfl rfl (by decide) rfl ?_
  refine e_step (pc' := 12) hK rfl rfl rfl ?_
  refine e_cQI1 (z := 106) hK rfl rfl rfl (Nat.le_of_ble_eq_true rfl) (Nat.le_of_ble_eq_true rfl) (g_init (o1 + 1) (s1 + mv_fn 4) (uo_e rfl)) ?_
  rintro _ _ _ ⟨rfl, rfl, rfl⟩
  refine ⟨by decide, ?_⟩
  rw [if_pos rfl]
  show mv_Ev _ _ 15 _ _ _ _ _
  refine e_step (pc' := 16) hK rfl rfl rfl ?_
  try simp only [List.set_cons_zero, List.set_cons_succ]
  refine e_step (pc' := 17) hK rfl rfl rfl ?_
  refine e_newarr (pc' := 19) hK rfl (by omega) (by omega) rfl (by decide) rfl ?_
  refine e_step (pc' := 20) hK rfl rfl rfl ?_
  try simp only [List.set_cons_zero, List.set_cons_succ]
  refine e_step (pc' := 21) hK rfl rfl rfl ?_
  refine e_step (pc' := 23) hK rfl rfl rfl ?_
  try simp only [List.set_cons_zero, List.set_cons_succ]
  have e := mH_of (h := mv_uo h1 ((264 : Nat) : Int) (4, (mv_fn 4 : Int), mv_df 4)) (v := fun _ _ => 0) (h' := mv_uo (mH (mv_uo h1 ((264 : Nat) : Int) (4, (mv_fn 4 : Int), mv_df 4)) (fun _ _ => 0)) ((276 : Nat) : Int) (13, 1, fun _ => 0)) (fun b b0 b1 => uo_n (by omega))
  have hl : LtA 277 (mH (mv_uo (mH (mv_uo h1 ((264 : Nat) : Int) (4, (mv_fn 4 : Int), mv_df 4)) (fun _ _ => 0)) ((276 : Nat) : Int) (13, 1, fun _ => 0)) (fun _ _ => 0)) ((0, fun _ => 0, ge0, 0, fun _ => ge0, fun _ => false, fun _ => ge0) : wt) := ⟨(hL 277 (Nat.le_refl _)).1.kq (fun b hb => by { unfold csb at hb; rw [mH_o (by omega), uo_n (by omega), mH_o (by omega), uo_n (by omega)] }), (hL 277 (Nat.le_refl _)).2.kq (fun b hb => by rw [mH_o (by omega), uo_n (by omega), mH_o (by omega), uo_n (by omega)])⟩
  have K := law_loop (sc := sc) 601024 7293034 hs hb 512 0 277 (o1 + 1 + 11 + 1) (s1 + mv_fn 4 + 23387 + 1) _ (fun _ _ => 0) _ (5, 0) (5, 0) ⟨⟨by omega, hb.1⟩, by omega, by omega, by { have f0 : mv_fn 0 = 10 := rfl; have f4 : mv_fn 4 = 16 := rfl; rw [f0] at y2; rw [f4]; omega }, hl, MdA_0, rfl, rfl⟩
  rw [← e] at K
  exact K
theorem mv_small {L : Nat} {xs : Nat → Int32} (hL : L ≤ 2048) : mv_Small L xs := by
  obtain ⟨N, v, c1, h1, hr, hv, h2, h3⟩ := law_run (sc := ((L : Int), fun j => (xs j.toNat).toInt)) (fun j => ⟨Int32.le_toInt _, Int32.toInt_le _⟩) ⟨Int.natCast_nonneg _, by show (L : Int) ≤ 2048; omega⟩
  subst hv
  exact ⟨N, c1, h1, hr, h2, h3⟩
end GQ
