/-! constructors (written by wip/whole/m78.py) -/
section GI
variable {sc : Int × (Int → Int)} {c : mv_C} {h : mv_H}
theorem df4 : mv_up (mv_up (mv_up (mv_up (mv_up (mv_up (mv_up (mv_up (mv_up (mv_up (mv_up (mv_up (mv_df 4) 1 265) 3 266) 4 267) 5 268) 6 269) 8 270) 9 271) 10 272) 11 273) 12 274) 14 275) 7 0 = md_c (fun _ => 0) := by
  funext k
  by_cases hk : 0 ≤ k ∧ k < 16
  · obtain ⟨n, rfl⟩ : ∃ n : Nat, k = n := ⟨k.toNat, by omega⟩
    have h : ∀ n : Nat, n < 16 → mv_up (mv_up (mv_up (mv_up (mv_up (mv_up (mv_up (mv_up (mv_up (mv_up (mv_up (mv_up (mv_df 4) 1 265) 3 266) 4 267) 5 268) 6 269) 8 270) 9 271) 10 272) 11 273) 12 274) 14 275) 7 0 n = md_c (fun _ => 0) n := by decide +kernel
    exact h n (by omega)
  · simp (disch := omega) only [up_n]
    have e1 : md_c (fun _ => 0) k = 0 := by
      unfold md_c
      (repeat' split) <;> first | rfl | omega
    rw [e1]
    unfold mv_df mv_ft mv_fs
    by_cases h0 : k < 0
    · rw [show k.toNat = 0 from by omega]; rfl
    · rw [if_pos]
      show ([0, 2, 0, 2, 2, 2, 2, 0, 2, 2, 2, 2, 2, 0, 2, 0] : List Nat).getD k.toNat 0 = 0
      rw [List.getD_eq_getElem?_getD, List.getElem?_eq_none (by show 16 ≤ k.toNat; omega)]; rfl
set_option maxRecDepth 10000 in
theorem g_init (o s : Nat) (hn : h 264 = (4, 16, mv_df 4)) : mv_Cl sc q_Mod_init [(2, 264)] (265, o, s) h (fun r c' h' => r = (3, 0) ∧ c' = (276, o + 11, s + 23387) ∧ h' = mH h (fun _ _ => 0)) := by
  show mv_Ev sc 106 0 [(2, 264)] [] (265, o, s) h _
  have hK : (mv_m 106).1 = kc_Mod_init := rfl
  refine e_step (pc' := 1) hK rfl rfl rfl ?_
  refine e_cQI1 (z := 3) hK rfl rfl rfl (Nat.le_of_ble_eq_true rfl) (Nat.le_of_ble_eq_true rfl) (c_objInit _) ?_
  rintro _ _ _ ⟨rfl, rfl, rfl⟩
  refine ⟨by decide, ?_⟩
  rw [if_pos rfl]
  show mv_Ev _ _ 4 _ _ _ _ _
  refine e_step (pc' := 5) hK rfl rfl rfl ?_
  refine e_step (pc' := 7) hK rfl rfl rfl ?_
  refine e_newarr (pc' := 9) hK rfl (by omega) (by omega) rfl (by decide) rfl ?_
  refine e_put (ci := 4) (k := 1) (pc' := 12) hK rfl (by simp (disch := omega) only [hn, uo_e, uo_n, up_s, up_n]) rfl rfl (by decide) rfl rfl ?_
  simp (disch := omega) only [uo_e, uo_n, hn]
  refine e_step (pc' := 13) hK rfl rfl rfl ?_
  refine e_step (pc' := 16) hK rfl rfl rfl ?_
  refine e_newarr (pc' := 18) hK rfl (by omega) (by omega) rfl (by decide) rfl ?_
  refine e_put (ci := 4) (k := 3) (pc' := 21) hK rfl (by simp (disch := omega) only [hn, uo_e, uo_n, up_s, up_n]) rfl rfl (by decide) rfl rfl ?_
  simp (disch := omega) only [uo_e, uo_n, hn]
  refine e_step (pc' := 22) hK rfl rfl rfl ?_
  refine e_step (pc' := 25) hK rfl rfl rfl ?_
  refine e_newarr (pc' := 27) hK rfl (by omega) (by omega) rfl (by decide) rfl ?_
  refine e_put (ci := 4) (k := 4) (pc' := 30) hK rfl (by simp (disch := omega) only [hn, uo_e, uo_n, up_s, up_n]) rfl rfl (by decide) rfl rfl ?_
  simp (disch := omega) only [uo_e, uo_n, hn]
  refine e_step (pc' := 31) hK rfl rfl rfl ?_
  refine e_step (pc' := 34) hK rfl rfl rfl ?_
  refine e_newarr (pc' := 36) hK rfl (by omega) (by omega) rfl (by decide) rfl ?_
  refine e_put (ci := 4) (k := 5) (pc' := 39) hK rfl (by simp (disch := omega) only [hn, uo_e, uo_n, up_s, up_n]) rfl rfl (by decide) rfl rfl ?_
  simp (disch := omega) only [uo_e, uo_n, hn]
  refine e_step (pc' := 40) hK rfl rfl rfl ?_
  refine e_step (pc' := 43) hK rfl rfl rfl ?_
  refine e_newarr (pc' := 45) hK rfl (by omega) (by omega) rfl (by decide) rfl ?_
  refine e_put (ci := 4) (k := 6) (pc' := 48) hK rfl (by simp (disch := omega) only [hn, uo_e, uo_n, up_s, up_n]) rfl rfl (by decide) rfl rfl ?_
  simp (disch := omega) only [uo_e, uo_n, hn]
  refine e_step (pc' := 49) hK rfl rfl rfl ?_
  refine e_step (pc' := 52) hK rfl rfl rfl ?_
  refine e_newarr (pc' := 54) hK rfl (by omega) (by omega) rfl (by decide) rfl ?_
  refine e_put (ci := 4) (k := 8) (pc' := 57) hK rfl (by simp (disch := omega) only [hn, uo_e, uo_n, up_s, up_n]) rfl rfl (by decide) rfl rfl ?_
  simp (disch := omega) only [uo_e, uo_n, hn]
  refine e_step (pc' := 58) hK rfl rfl rfl ?_
  refine e_step (pc' := 59) hK rfl rfl rfl ?_
  refine e_newarr (pc' := 61) hK rfl (by omega) (by omega) rfl (by decide) rfl ?_
  refine e_put (ci := 4) (k := 9) (pc' := 64) hK rfl (by simp (disch := omega) only [hn, uo_e, uo_n, up_s, up_n]) rfl rfl (by decide) rfl rfl ?_
  simp (disch := omega) only [uo_e, uo_n, hn]
  refine e_step (pc' := 65) hK rfl rfl rfl ?_
  refine e_step (pc' := 67) hK rfl rfl rfl ?_
  refine e_newarr (pc' := 69) hK rfl (by omega) (by omega) rfl (by decide) rfl ?_
  refine e_put (ci := 4) (k := 10) (pc' := 72) hK rfl (by simp (disch := omega) only [hn, uo_e, uo_n, up_s, up_n]) rfl rfl (by decide) rfl rfl ?_
  simp (disch := omega) only [uo_e, uo_n, hn]
  refine e_step (pc' := 73) hK rfl rfl rfl ?_
  refine e_step (pc' := 75) hK rfl rfl rfl ?_
  refine e_newarr (pc' := 77) hK rfl (by omega) (by omega) rfl (by decide) rfl ?_
  refine e_put (ci := 4) (k := 11) (pc' := 80) hK rfl (by simp (disch := omega) only [hn, uo_e, uo_n, up_s, up_n]) rfl rfl (by decide) rfl rfl ?_
  simp (disch := omega) only [uo_e, uo_n, hn]
  refine e_step (pc' := 81) hK rfl rfl rfl ?_
  refine e_step (pc' := 83) hK rfl rfl rfl ?_
  refine e_newarr (pc' := 85) hK rfl (by omega) (by omega) rfl (by decide) rfl ?_
  refine e_put (ci := 4) (k := 12) (pc' := 88) hK rfl (by simp (disch := omega) only [hn, uo_e, uo_n, up_s, up_n]) rfl rfl (by decide) rfl rfl ?_
  simp (disch := omega) only [uo_e, uo_n, hn]
  refine e_step (pc' := 89) hK rfl rfl rfl ?_
  refine e_step (pc' := 91) hK rfl rfl rfl ?_
  refine e_newarr (pc' := 93) hK rfl (by omega) (by omega) rfl (by decide) rfl ?_
  refine e_put (ci := 4) (k := 14) (pc' := 96) hK rfl (by simp (disch := omega) only [hn, uo_e, uo_n, up_s, up_n]) rfl rfl (by decide) rfl rfl ?_
  simp (disch := omega) only [uo_e, uo_n, hn]
  refine e_step (pc' := 97) hK rfl rfl rfl ?_
  refine e_step (pc' := 98) hK rfl rfl rfl ?_
  refine e_put (ci := 4) (k := 7) (pc' := 101) hK rfl (by simp (disch := omega) only [hn, uo_e, uo_n, up_s, up_n]) rfl rfl (by decide) rfl rfl ?_
  simp (disch := omega) only [uo_e, uo_n, hn]
  refine e_ret hK rfl rfl rfl ?_
  refine ⟨rfl, rfl, ?_⟩
  funext b
  by_cases e : b = 264
  · rw [e, uo_s, mH_64]; try simp (disch := omega) only [uo_e, uo_n]
    exact congrArg (fun g => ((4 : Nat), (16 : Int), g)) df4
  · by_cases e2 : 265 ≤ b ∧ b ≤ 275
    · rw [mH_a e2.1 e2.2]
      have hb : b = 265 ∨ b = 266 ∨ b = 267 ∨ b = 268 ∨ b = 269 ∨ b = 270 ∨ b = 271 ∨ b = 272 ∨ b = 273 ∨ b = 274 ∨ b = 275 := by omega
      rcases hb with rfl | rfl | rfl | rfl | rfl | rfl | rfl | rfl | rfl | rfl | rfl <;> (simp (disch := omega) only [uo_e, uo_n]; rfl)
    · rw [mH_o (by omega)]; simp (disch := omega) only [uo_n]
set_option maxRecDepth 10000 in
theorem c_stI2 (n o s : Nat) (hb : 165 ≤ n ∧ n ≤ 258) (hn : h (n : Int) = (2, 7, mv_df 2)) (hl : LnX h 2 x0) : ∀ (m : Nat) (k : Nat) (hh : mv_H), (k + m = 12 ∧ (hh (n : Int)).1 = 2 ∧ (hh (n : Int)).2.2 0 = 2 ∧ (hh (n : Int)).2.2 1 = (n : Int) + 1 ∧ (hh (n : Int)).2.2 2 = (n : Int) + 2 ∧ (hh (n : Int)).2.2 3 = (n : Int) + 3 ∧ (hh (n : Int)).2.2 4 = (n : Int) + 4 ∧ (hh (n : Int)).2.2 5 = 0 ∧ (hh (n : Int)).2.2 6 = 0 ∧ ((hh ((n : Int) + 1)).1 = 14 ∧ (hh ((n : Int) + 1)).2.1 = 24) ∧ ((hh ((n : Int) + 2)).1 = 10 ∧ (hh ((n : Int) + 2)).2.1 = 24) ∧ ((hh ((n : Int) + 3)).1 = 14 ∧ (hh ((n : Int) + 3)).2.1 = 12) ∧ ((hh ((n : Int) + 4)).1 = 10 ∧ (hh ((n : Int) + 4)).2.1 = 12) ∧ ∀ b : Int, (b < n ∨ (n : Int) + 4 < b) → hh b = h b) → mv_Ev sc 15 66 [(2, (n : Int)), (2, 2), (0, (k : Int))] [] c hh (fun r c' h' => r = (3, 0) ∧ c' = c ∧ StA h' n ge0 ∧ ∀ b : Int, (b < n ∨ (n : Int) + 4 < b) → h' b = h b) := by
  intro m
  induction m with
  | zero =>
    intro k hh ⟨hk, hH⟩
    obtain ⟨i0, i1, i2, i3, i4, i5, i6, i61, ⟨i71, i72⟩, ⟨i81, i82⟩, ⟨i91, i92⟩, ⟨i101, i102⟩, i11⟩ := hH
    have l1 : (hh 2).1 = 1 := by { rw [i11 2 (by omega)]; exact hl.tag }
    have hK : (mv_m 15).1 = kc_State_init := rfl
    refine e_step (pc' := 67) hK rfl rfl rfl ?_
    refine e_step (pc' := 69) hK rfl rfl rfl ?_
    refine e_icmp (t := 85) (pc' := 72) hK rfl (by omega) (by omega) (by decide) rfl (fun hb69 => ?_) (fun hb69 => ?_)
    · replace hb69 := cq_ge.1.mp hb69
      refine e_ret hK rfl rfl rfl ?_
      refine ⟨rfl, rfl, ⟨⟨by omega, by omega, i0, i1, i2, i3, i4, i5, ⟨i71, i72⟩, ⟨i81, i82⟩, ⟨i91, i92⟩, ⟨i101, i102⟩, hl.kept (fun b b0 b1 => i11 b (by omega))⟩, ⟨Nat.zero_le _, Nat.zero_le _, fun i q0 q1 => ?_, fun t q0 q1 => ?_⟩, i6, i61, fun i q0 q1 => ?_, fun i q0 q1 => ?_, fun i q0 q1 => ?_, fun i q0 q1 => ?_⟩, i11⟩
      all_goals (exfalso; have q1 : _ < (0 : Int) := q1; omega)
    · replace hb69 := cq_ge.2.mp hb69
      exfalso; first | omega | exact absurd trivial (by assumption)
  | succ m ih =>
    intro k hh ⟨hk, hH⟩
    obtain ⟨i0, i1, i2, i3, i4, i5, i6, i61, ⟨i71, i72⟩, ⟨i81, i82⟩, ⟨i91, i92⟩, ⟨i101, i102⟩, i11⟩ := hH
    have l1 : (hh 2).1 = 1 := by { rw [i11 2 (by omega)]; exact hl.tag }
    have hK : (mv_m 15).1 = kc_State_init := rfl
    refine e_step (pc' := 67) hK rfl rfl rfl ?_
    refine e_step (pc' := 69) hK rfl rfl rfl ?_
    refine e_icmp (t := 85) (pc' := 72) hK rfl (by omega) (by omega) (by decide) rfl (fun hb69 => ?_) (fun hb69 => ?_)
    · replace hb69 := cq_ge.1.mp hb69
      exfalso; first | omega | exact absurd trivial (by assumption)
    · replace hb69 := cq_ge.2.mp hb69
      refine e_step (pc' := 73) hK rfl rfl rfl ?_
      refine e_getR (ci := 2) (k := 3) (pc' := 76) hK rfl (by simp (disch := omega) only [i0, i1, i2, i3, i4, i5, i6, i71, i72, i81, i82, i91, i92, i101, i102, l1]) rfl rfl (by decide) (by decide) (by (try simp (disch := omega) only [i0, i1, i2, i3, i4, i5, i6, i71, i72, i81, i82, i91, i92, i101, i102, l1]); omega) rfl ?_
      try simp (disch := omega) only [i0, i1, i2, i3, i4, i5, i6, i71, i72, i81, i82, i91, i92, i101, i102, l1]
      refine e_step (pc' := 77) hK rfl rfl rfl ?_
      refine e_step (pc' := 78) hK rfl rfl rfl ?_
      refine e_aast (pc' := 79) hK rfl (by simp (disch := omega) only [i0, i1, i2, i3, i4, i5, i6, i71, i72, i81, i82, i91, i92, i101, i102, l1]; decide) (by omega) (by (try simp (disch := omega) only [i0, i1, i2, i3, i4, i5, i6, i71, i72, i81, i82, i91, i92, i101, i102, l1]); omega) rfl ?_
      refine e_step (pc' := 82) hK rfl rfl rfl ?_
      try simp only [List.set_cons_zero, List.set_cons_succ]
      refine e_goto (t := 66) hK rfl (by decide) ?_
      refine ih (k + 1) _ ⟨by omega, ?_, ?_, ?_, ?_, ?_, ?_, ?_, ?_, ⟨?_, ?_⟩, ⟨?_, ?_⟩, ⟨?_, ?_⟩, ⟨?_, ?_⟩, fun b hb2 => ?_⟩
      all_goals (simp (disch := omega) only [uo_e, uo_n]; first | assumption | skip)
      exact i11 b hb2
set_option maxRecDepth 10000 in
theorem c_stI1 (n o s : Nat) (hb : 165 ≤ n ∧ n ≤ 258) (hn : h (n : Int) = (2, 7, mv_df 2)) (hl : LnX h 2 x0) : ∀ (m : Nat) (k : Nat) (hh : mv_H), (k + m = 24 ∧ (hh (n : Int)).1 = 2 ∧ (hh (n : Int)).2.2 0 = 2 ∧ (hh (n : Int)).2.2 1 = (n : Int) + 1 ∧ (hh (n : Int)).2.2 2 = (n : Int) + 2 ∧ (hh (n : Int)).2.2 3 = (n : Int) + 3 ∧ (hh (n : Int)).2.2 4 = (n : Int) + 4 ∧ (hh (n : Int)).2.2 5 = 0 ∧ (hh (n : Int)).2.2 6 = 0 ∧ ((hh ((n : Int) + 1)).1 = 14 ∧ (hh ((n : Int) + 1)).2.1 = 24) ∧ ((hh ((n : Int) + 2)).1 = 10 ∧ (hh ((n : Int) + 2)).2.1 = 24) ∧ ((hh ((n : Int) + 3)).1 = 14 ∧ (hh ((n : Int) + 3)).2.1 = 12) ∧ ((hh ((n : Int) + 4)).1 = 10 ∧ (hh ((n : Int) + 4)).2.1 = 12) ∧ ∀ b : Int, (b < n ∨ (n : Int) + 4 < b) → hh b = h b) → mv_Ev sc 15 45 [(2, (n : Int)), (2, 2), (0, (k : Int))] [] c hh (fun r c' h' => r = (3, 0) ∧ c' = c ∧ StA h' n ge0 ∧ ∀ b : Int, (b < n ∨ (n : Int) + 4 < b) → h' b = h b) := by
  intro m
  induction m with
  | zero =>
    intro k hh ⟨hk, hH⟩
    obtain ⟨i0, i1, i2, i3, i4, i5, i6, i61, ⟨i71, i72⟩, ⟨i81, i82⟩, ⟨i91, i92⟩, ⟨i101, i102⟩, i11⟩ := hH
    have l1 : (hh 2).1 = 1 := by { rw [i11 2 (by omega)]; exact hl.tag }
    have hK : (mv_m 15).1 = kc_State_init := rfl
    refine e_step (pc' := 46) hK rfl rfl rfl ?_
    refine e_step (pc' := 48) hK rfl rfl rfl ?_
    refine e_icmp (t := 64) (pc' := 51) hK rfl (by omega) (by omega) (by decide) rfl (fun hb48 => ?_) (fun hb48 => ?_)
    · replace hb48 := cq_ge.1.mp hb48
      refine e_step (pc' := 65) hK rfl rfl rfl ?_
      refine e_step (pc' := 66) hK rfl rfl rfl ?_
      try simp only [List.set_cons_zero, List.set_cons_succ]
      exact c_stI2 n o s hb hn hl 12 0 hh ⟨by omega, i0, i1, i2, i3, i4, i5, i6, i61, ⟨i71, i72⟩, ⟨i81, i82⟩, ⟨i91, i92⟩, ⟨i101, i102⟩, i11⟩
    · replace hb48 := cq_ge.2.mp hb48
      exfalso; first | omega | exact absurd trivial (by assumption)
  | succ m ih =>
    intro k hh ⟨hk, hH⟩
    obtain ⟨i0, i1, i2, i3, i4, i5, i6, i61, ⟨i71, i72⟩, ⟨i81, i82⟩, ⟨i91, i92⟩, ⟨i101, i102⟩, i11⟩ := hH
    have l1 : (hh 2).1 = 1 := by { rw [i11 2 (by omega)]; exact hl.tag }
    have hK : (mv_m 15).1 = kc_State_init := rfl
    refine e_step (pc' := 46) hK rfl rfl rfl ?_
    refine e_step (pc' := 48) hK rfl rfl rfl ?_
    refine e_icmp (t := 64) (pc' := 51) hK rfl (by omega) (by omega) (by decide) rfl (fun hb48 => ?_) (fun hb48 => ?_)
    · replace hb48 := cq_ge.1.mp hb48
      exfalso; first | omega | exact absurd trivial (by assumption)
    · replace hb48 := cq_ge.2.mp hb48
      refine e_step (pc' := 52) hK rfl rfl rfl ?_
      refine e_getR (ci := 2) (k := 1) (pc' := 55) hK rfl (by simp (disch := omega) only [i0, i1, i2, i3, i4, i5, i6, i71, i72, i81, i82, i91, i92, i101, i102, l1]) rfl rfl (by decide) (by decide) (by (try simp (disch := omega) only [i0, i1, i2, i3, i4, i5, i6, i71, i72, i81, i82, i91, i92, i101, i102, l1]); omega) rfl ?_
      try simp (disch := omega) only [i0, i1, i2, i3, i4, i5, i6, i71, i72, i81, i82, i91, i92, i101, i102, l1]
      refine e_step (pc' := 56) hK rfl rfl rfl ?_
      refine e_step (pc' := 57) hK rfl rfl rfl ?_
      refine e_aast (pc' := 58) hK rfl (by simp (disch := omega) only [i0, i1, i2, i3, i4, i5, i6, i71, i72, i81, i82, i91, i92, i101, i102, l1]; decide) (by omega) (by (try simp (disch := omega) only [i0, i1, i2, i3, i4, i5, i6, i71, i72, i81, i82, i91, i92, i101, i102, l1]); omega) rfl ?_
      refine e_step (pc' := 61) hK rfl rfl rfl ?_
      try simp only [List.set_cons_zero, List.set_cons_succ]
      refine e_goto (t := 45) hK rfl (by decide) ?_
      refine ih (k + 1) _ ⟨by omega, ?_, ?_, ?_, ?_, ?_, ?_, ?_, ?_, ⟨?_, ?_⟩, ⟨?_, ?_⟩, ⟨?_, ?_⟩, ⟨?_, ?_⟩, fun b hb2 => ?_⟩
      all_goals (simp (disch := omega) only [uo_e, uo_n]; first | assumption | skip)
      exact i11 b hb2
set_option maxRecDepth 10000 in
theorem c_stInit (n o s : Nat) (hb : 165 ≤ n ∧ n ≤ 258) (hn : h (n : Int) = (2, 7, mv_df 2)) (hl : LnX h 2 x0) : mv_Cl sc q_State_init [(2, (n : Int)), (2, 2)] (n + 1, o, s) h (fun r c' h' => r = (3, 0) ∧ c' = (n + 5, o + 4, s + 72) ∧ StA h' n ge0 ∧ ∀ b : Int, (b < n ∨ (n : Int) + 4 < b) → h' b = h b) := by
  show mv_Ev sc 15 0 [(2, (n : Int)), (2, 2), (5, 0)] [] (n + 1, o, s) h _
  have hK : (mv_m 15).1 = kc_State_init := rfl
  refine e_step (pc' := 1) hK rfl rfl rfl ?_
  refine e_cQI1 (z := 3) hK rfl rfl rfl (Nat.le_of_ble_eq_true rfl) (Nat.le_of_ble_eq_true rfl) (c_objInit _) ?_
  rintro _ _ _ ⟨rfl, rfl, rfl⟩
  refine ⟨by decide, ?_⟩
  rw [if_pos rfl]
  show mv_Ev _ _ 4 _ _ _ _ _
  refine e_step (pc' := 5) hK rfl rfl rfl ?_
  refine e_step (pc' := 7) hK rfl rfl rfl ?_
  refine e_anew (k := 14) (pc' := 10) hK rfl (by omega) (by omega) rfl (by decide) rfl ?_
  refine e_put (ci := 2) (k := 1) (pc' := 13) hK rfl (by simp (disch := omega) only [hn, uo_e, uo_n, up_s, up_n]) rfl rfl (by decide) rfl rfl ?_
  simp (disch := omega) only [uo_e, uo_n, hn]
  refine e_step (pc' := 14) hK rfl rfl rfl ?_
  refine e_step (pc' := 16) hK rfl rfl rfl ?_
  refine e_newarr (pc' := 18) hK rfl (by omega) (by omega) rfl (by decide) rfl ?_
  refine e_put (ci := 2) (k := 2) (pc' := 21) hK rfl (by simp (disch := omega) only [hn, uo_e, uo_n, up_s, up_n]) rfl rfl (by decide) rfl rfl ?_
  simp (disch := omega) only [uo_e, uo_n, hn]
  refine e_step (pc' := 22) hK rfl rfl rfl ?_
  refine e_step (pc' := 24) hK rfl rfl rfl ?_
  refine e_anew (k := 14) (pc' := 27) hK rfl (by omega) (by omega) rfl (by decide) rfl ?_
  refine e_put (ci := 2) (k := 3) (pc' := 30) hK rfl (by simp (disch := omega) only [hn, uo_e, uo_n, up_s, up_n]) rfl rfl (by decide) rfl rfl ?_
  simp (disch := omega) only [uo_e, uo_n, hn]
  refine e_step (pc' := 31) hK rfl rfl rfl ?_
  refine e_step (pc' := 33) hK rfl rfl rfl ?_
  refine e_newarr (pc' := 35) hK rfl (by omega) (by omega) rfl (by decide) rfl ?_
  refine e_put (ci := 2) (k := 4) (pc' := 38) hK rfl (by simp (disch := omega) only [hn, uo_e, uo_n, up_s, up_n]) rfl rfl (by decide) rfl rfl ?_
  simp (disch := omega) only [uo_e, uo_n, hn]
  refine e_step (pc' := 39) hK rfl rfl rfl ?_
  refine e_step (pc' := 40) hK rfl rfl rfl ?_
  refine e_put (ci := 2) (k := 0) (pc' := 43) hK rfl (by simp (disch := omega) only [hn, uo_e, uo_n, up_s, up_n]) rfl rfl (by decide) rfl rfl ?_
  simp (disch := omega) only [uo_e, uo_n, hn]
  refine e_step (pc' := 44) hK rfl rfl rfl ?_
  refine e_step (pc' := 45) hK rfl rfl rfl ?_
  try simp only [List.set_cons_zero, List.set_cons_succ]
  refine (c_stI1 n o s hb hn hl 24 0 _ ⟨by omega, ?_, ?_, ?_, ?_, ?_, ?_, ?_, ?_, ⟨?_, ?_⟩, ⟨?_, ?_⟩, ⟨?_, ?_⟩, ⟨?_, ?_⟩, fun b hb2 => ?_⟩).mono (fun r c' h' hq => ?_)
  all_goals (try (simp (disch := omega) only [uo_e, uo_n, up_s, up_n, hn]; first | done | rfl | omega))
  obtain ⟨q1, q2, q3, q4⟩ := hq
  exact ⟨q1, q2, q3, q4⟩
end GI
