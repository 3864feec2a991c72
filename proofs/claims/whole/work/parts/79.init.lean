/-! constructors of the class (written by wip/whole/m79.py) -/
section GK
variable {sc : Int × (Int → Int)} {c : mv_C} {h : mv_H}
set_option maxRecDepth 10000 in
theorem c_hsI1 (hl : LnX h 2 x0) (o s : Nat) (g : Int → lg) : ∀ (m : Nat) (i : Nat) (hh : mv_H), (i + m = 14 ∧ (hh 180).1 = 3 ∧ (hh 180).2.2 0 = 181 ∧ (hh 180).2.2 1 = 0 ∧ (hh 180).2.2 2 = 0 ∧ (hh 181).1 = 15 ∧ (hh 181).2.1 = 14 ∧ (∀ k : Int, 0 ≤ k → k < i → (hh 181).2.2 k = 182 + 5 * k ∧ StW hh (182 + 5 * k)) ∧ ∀ b : Int, b < 180 → hh b = h b) → mv_Ev sc 34 15 [(2, 180), (2, 2), (0, (i : Int))] [] (182 + 5 * i, o + 1 + 5 * i, s + 14 + 79 * i) hh (fun r c' h' => r = (3, 0) ∧ c' = (252, o + 71, s + 1120) ∧ HsA h' 0 g ∧ ∀ b : Int, b < 180 → h' b = h b) := by
  intro m
  induction m with
  | zero =>
    intro i hh ⟨hi, i0, i1, i2, i3, i4, i5, i6, i7⟩
    have l1 : (hh 2).1 = 1 := by { rw [i7 2 (by omega)]; exact hl.tag }
    have hK : (mv_m 34).1 = kc_Hist_init := rfl
    refine e_step (pc' := 16) hK rfl rfl rfl ?_
    refine e_step (pc' := 18) hK rfl rfl rfl ?_
    refine e_icmp (t := 41) (pc' := 21) hK rfl (by omega) (by omega) (by decide) rfl (fun hb18 => ?_) (fun hb18 => ?_)
    · replace hb18 := cq_ge.1.mp hb18
      refine e_ret hK rfl rfl rfl ?_
      have e : i = 14 := by omega
      subst e
      refine ⟨rfl, rfl, ⟨⟨i0, i1, i4, i5, fun k k0 k1 => i6 k k0 (by omega)⟩, Nat.zero_le _, i3, 0, by omega, by omega, i2, fun j j0 j1 => by { have j1 : j < 0 := j1; omega }⟩, i7⟩
    · replace hb18 := cq_ge.2.mp hb18
      exfalso; first | omega | exact absurd trivial (by assumption)
  | succ m ih =>
    intro i hh ⟨hi, i0, i1, i2, i3, i4, i5, i6, i7⟩
    have l1 : (hh 2).1 = 1 := by { rw [i7 2 (by omega)]; exact hl.tag }
    have hK : (mv_m 34).1 = kc_Hist_init := rfl
    refine e_step (pc' := 16) hK rfl rfl rfl ?_
    refine e_step (pc' := 18) hK rfl rfl rfl ?_
    refine e_icmp (t := 41) (pc' := 21) hK rfl (by omega) (by omega) (by decide) rfl (fun hb18 => ?_) (fun hb18 => ?_)
    · replace hb18 := cq_ge.1.mp hb18
      exfalso; first | omega | exact absurd trivial (by assumption)
    · replace hb18 := cq_ge.2.mp hb18
      refine e_step (pc' := 22) hK rfl rfl rfl ?_
      refine e_getR (ci := 3) (k := 0) (pc' := 25) hK rfl (by simp (disch := omega) only [i0, i1, i4, i5, uo_e, uo_n, up_s, up_n]) rfl rfl (by decide) (by decide) (by (try simp (disch := omega) only [i0, i1, i4, i5, uo_e, uo_n, up_s, up_n]); omega) rfl ?_
      try simp (disch := omega) only [i0, i1, i4, i5, uo_e, uo_n, up_s, up_n]
      refine e_step (pc' := 26) hK rfl rfl rfl ?_
      refine e_new (ci := 2) (pc' := 29) hK rfl rfl (by decide) rfl ?_
      refine e_step (pc' := 30) hK rfl rfl rfl ?_
      refine e_step (pc' := 31) hK rfl rfl rfl ?_
      refine e_cQI2 (z := 15) hK rfl rfl rfl (Nat.le_of_ble_eq_true rfl) (Nat.le_of_ble_eq_true rfl) (c_stInit (182 + 5 * i) (o + 1 + 5 * i + 1) (s + 14 + 79 * i + mv_fn 2) (by omega) (uo_e rfl) (hl.kept (fun b b0 b1 => by { rw [uo_n (by omega)]; exact i7 b (by omega) }))) ?_
      rintro _ _ g1 ⟨rfl, rfl, hs1, hf1⟩
      refine ⟨by decide, ?_⟩
      rw [if_pos rfl]
      have w180 : g1 180 = hh 180 := by { rw [hf1 180 (by omega), uo_n (by omega)] }
      have w181 : g1 181 = hh 181 := by { rw [hf1 181 (by omega), uo_n (by omega)] }
      have wt : (g1 ((182 + 5 * i : Nat) : Int)).1 = 2 := hs1.1.2.2.1
      show mv_Ev _ _ 34 _ _ _ _ _
      refine e_aast (pc' := 35) hK rfl (by simp (disch := omega) only [i0, i1, i4, i5, uo_e, uo_n, up_s, up_n, w181, wt]; decide) (by omega) (by (try simp (disch := omega) only [i0, i1, i4, i5, uo_e, uo_n, up_s, up_n, w181, wt]); omega) rfl ?_
      refine e_step (pc' := 38) hK rfl rfl rfl ?_
      try simp only [List.set_cons_zero, List.set_cons_succ]
      refine e_goto (t := 15) hK rfl (by decide) ?_
      have ec : ((182 + 5 * i + 5, o + 1 + 5 * i + 1 + 4, s + 14 + 79 * i + mv_fn 2 + 72) : mv_C) = (182 + 5 * (i + 1), o + 1 + 5 * (i + 1), s + 14 + 79 * (i + 1)) := by { rw [show mv_fn 2 = 7 from rfl]; refine Prod.ext ?_ (Prod.ext ?_ ?_) <;> dsimp only <;> omega }
      rw [ec]
      have eo : ∀ b : Int, b < 181 → mv_uo g1 181 ((g1 181).1, (g1 181).2.1, mv_up (g1 181).2.2 (i : Int) ((182 + 5 * i : Nat) : Int)) b = hh b := fun b hb => by { rw [uo_n (by omega), hf1 b (by omega), uo_n (by omega)] }
      refine ih (i + 1) _ ⟨by omega, ?_, ?_, ?_, ?_, ?_, ?_, fun k k0 k1 => ⟨?_, ?_⟩, fun b hb => ?_⟩
      · first | (rw [eo 180 (by omega)]; exact i0) | (simp (disch := omega) only [uo_e, uo_n, w180, w181]; exact i0)
      · first | (rw [eo 180 (by omega)]; exact i1) | (simp (disch := omega) only [uo_e, uo_n, w180, w181]; exact i1)
      · first | (rw [eo 180 (by omega)]; exact i2) | (simp (disch := omega) only [uo_e, uo_n, w180, w181]; exact i2)
      · first | (rw [eo 180 (by omega)]; exact i3) | (simp (disch := omega) only [uo_e, uo_n, w180, w181]; exact i3)
      · simp (disch := omega) only [uo_e, w181]; first | exact i4 | rfl
      · simp (disch := omega) only [uo_e, w181]; first | exact i5 | rfl
      · simp (disch := omega) only [uo_e, w181]
        by_cases e : k = i
        · rw [e, up_s]; omega
        · rw [up_n e]; exact (i6 k k0 (by omega)).1
      · by_cases e : k = i
        · rw [e, show (182 + 5 * (i : Int)) = ((182 + 5 * i : Nat) : Int) from by omega]; exact hs1.1.kq (fun b hb => uo_n (by omega))
        · exact (i6 k k0 (by omega)).2.kq (fun b hb => by rw [uo_n (by omega), hf1 b (by omega), uo_n (by omega)])
      · rw [uo_n (by omega), hf1 b (by omega), uo_n (by omega)]; exact i7 b hb
set_option maxRecDepth 10000 in
theorem c_hsInit (hl : LnX h 2 x0) (o s : Nat) (g : Int → lg) (hn : h 180 = (3, 3, mv_df 3)) : mv_Cl sc q_Hist_init [(2, 180), (2, 2)] (181, o, s) h (fun r c' h' => r = (3, 0) ∧ c' = (252, o + 71, s + 1120) ∧ HsA h' 0 g ∧ ∀ b : Int, b < 180 → h' b = h b) := by
  show mv_Ev sc 34 0 [(2, 180), (2, 2), (5, 0)] [] (181, o, s) h _
  have hK : (mv_m 34).1 = kc_Hist_init := rfl
  refine e_step (pc' := 1) hK rfl rfl rfl ?_
  refine e_cQI1 (z := 3) hK rfl rfl rfl (Nat.le_of_ble_eq_true rfl) (Nat.le_of_ble_eq_true rfl) (c_objInit _) ?_
  rintro _ _ _ ⟨rfl, rfl, rfl⟩
  refine ⟨by decide, ?_⟩
  rw [if_pos rfl]
  show mv_Ev _ _ 4 _ _ _ _ _
  refine e_step (pc' := 5) hK rfl rfl rfl ?_
  refine e_step (pc' := 7) hK rfl rfl rfl ?_
  refine e_anew (k := 15) (pc' := 10) hK rfl (by omega) (by omega) rfl (by decide) rfl ?_
  refine e_put (ci := 3) (k := 0) (pc' := 13) hK rfl (by simp (disch := omega) only [hn, uo_e, uo_n, up_s, up_n]) rfl rfl (by decide) rfl rfl ?_
  try simp (disch := omega) only [uo_e, uo_n, hn]
  refine e_step (pc' := 14) hK rfl rfl rfl ?_
  refine e_step (pc' := 15) hK rfl rfl rfl ?_
  try simp only [List.set_cons_zero, List.set_cons_succ]
  refine c_hsI1 hl o s g 14 0 _ ⟨by omega, ?_, ?_, ?_, ?_, ?_, ?_, fun k k0 k1 => by omega, fun b hb => ?_⟩
  all_goals (simp (disch := omega) only [uo_e, uo_n, up_s, up_n]; first | done | rfl)
set_option maxRecDepth 10000 in
theorem c_ltI2 (O P : Nat) : ∀ (m : Nat) (i a d : Nat) (hh : mv_H), (i + m = 2 ∧ a + 5 * (m + 1) ≤ O ∧ d + 79 * m + 10 ≤ P ∧ (hh 0).1 = 0 ∧ (hh 0).2.2 0 = 1 ∧ (hh 0).2.2 1 = 0 ∧ (hh 0).2.2 2 = 8 ∧ (hh 0).2.2 3 = 14 ∧ ((hh 1).1 = 11 ∧ (hh 1).2.1 = 50) ∧ LnX hh 2 x0 ∧ LnW hh 8 ∧ ((hh 14).1 = 14 ∧ (hh 14).2.1 = 25) ∧ (hh 0).2.2 4 = 165 ∧ (hh 0).2.2 5 = 170 ∧ (hh 0).2.2 6 = 175 ∧ (hh 0).2.2 7 = 180 ∧ (hh 0).2.2 8 = 252 ∧ (∀ k : Int, 0 ≤ k → k < 25 → (hh 14).2.2 k = 15 + 6 * k ∧ LnW hh (15 + 6 * k)) ∧ StA hh 165 ge0 ∧ StW hh 170 ∧ StW hh 175 ∧ HsA hh 0 (fun _ => ge0) ∧ ((hh 252).1 = 15 ∧ (hh 252).2.1 = 2) ∧ ∀ k : Int, 0 ≤ k → k < i → (hh 252).2.2 k = 253 + 5 * k ∧ StW hh (253 + 5 * k)) → mv_Ev sc 39 133 [(2, 0), (2, 2), (0, (i : Int))] [] (253 + 5 * i, a, d) hh (fun r c' h' => r = (3, 0) ∧ c'.1 = 264 ∧ c'.2.1 ≤ O ∧ c'.2.2 ≤ P ∧ ∀ m : Nat, 277 ≤ m → LtA m h' ((0, fun _ => 0, ge0, 0, fun _ => ge0, fun _ => false, fun _ => ge0) : wt)) := by
  intro m
  induction m with
  | zero =>
    intro i a d hh ⟨hi, ha, hd, i0, i1, i2, i3, i4, ⟨i5, i6⟩, i7, i8, ⟨i9, i10⟩, j1, j2, j3, j4, j5, j6, j7, j8, j9, j10, ⟨j11, j12⟩, j13⟩
    have l1 : (hh 2).1 = 1 := i7.tag
    have hK : (mv_m 39).1 = kc_LT_init := rfl
    refine e_step (pc' := 134) hK rfl rfl rfl ?_
    refine e_step (pc' := 135) hK rfl rfl rfl ?_
    refine e_getR (ci := 0) (k := 8) (pc' := 138) hK rfl (by simp (disch := omega) only [i0, i1, i3, i4, i5, i6, i9, i10, l1, j5, j11, j12, uo_e, uo_n, up_s, up_n]) rfl rfl (by decide) (by decide) (by (try simp (disch := omega) only [i0, i1, i3, i4, i5, i6, i9, i10, l1, j5, j11, j12, uo_e, uo_n, up_s, up_n]); omega) rfl ?_
    try simp (disch := omega) only [i0, i1, i3, i4, i5, i6, i9, i10, l1, j5, j11, j12, uo_e, uo_n, up_s, up_n]
    refine e_alen (pc' := 139) hK rfl (by simp only [i0, i1, i3, i4, i5, i6, i9, i10, l1, j5, j11, j12, uo_e, uo_n, up_s, up_n]; decide) rfl ?_
    try simp (disch := omega) only [i0, i1, i3, i4, i5, i6, i9, i10, l1, j5, j11, j12, uo_e, uo_n, up_s, up_n]
    refine e_icmp (t := 162) (pc' := 142) hK rfl (by omega) (by omega) (by decide) rfl (fun hb139 => ?_) (fun hb139 => ?_)
    · replace hb139 := cq_ge.1.mp hb139
      refine e_step (pc' := 163) hK rfl rfl rfl ?_
      refine e_step (pc' := 164) hK rfl rfl rfl ?_
      refine e_newarr (pc' := 166) hK rfl (by omega) (by omega) rfl (by decide) rfl ?_
      refine e_put (ci := 0) (k := 9) (pc' := 169) hK rfl (by simp (disch := omega) only [i0, i1, i3, i4, i5, i6, i9, i10, l1, j5, j11, j12, uo_e, uo_n, up_s, up_n]) rfl rfl (by decide) rfl rfl ?_
      try simp (disch := omega) only [uo_e, uo_n]
      refine e_ret hK rfl rfl rfl ?_
      have e : i = 2 := by omega
      subst e
      refine ⟨rfl, rfl, by show a + 1 ≤ O; omega, by show d + (2 : Int).toNat ≤ P; have : (2 : Int).toNat = 2 := rfl; omega, fun mm hmm => ?_⟩
      have e263 : ((253 + 5 * 2 : Nat) : Int) = 263 := rfl
      rw [e263]
      have k0 := j13 0 (by omega) (by omega)
      have k1 := j13 1 (by omega) (by omega)
      have hz : ∀ b : Int, b ≠ 0 → b ≠ 263 → (mv_uo (mv_uo hh 263 (mv_ak ArrayType.boolean, 2, fun _ => 0)) 0 ((hh 0).1, (hh 0).2.1, mv_up (hh 0).2.2 9 263)) b = hh b := fun b n0 n1 => by { simp (disch := omega) only [uo_n] }
      have h00 : (mv_uo (mv_uo hh 263 (mv_ak ArrayType.boolean, 2, fun _ => 0)) 0 ((hh 0).1, (hh 0).2.1, mv_up (hh 0).2.2 9 263)) 0 = ((hh 0).1, (hh 0).2.1, mv_up (hh 0).2.2 9 263) := by { simp (disch := omega) only [uo_e, uo_n]; try rfl }
      have h263 : (mv_uo (mv_uo hh 263 (mv_ak ArrayType.boolean, 2, fun _ => 0)) 0 ((hh 0).1, (hh 0).2.1, mv_up (hh 0).2.2 9 263)) 263 = (12, 2, fun _ => 0) := by { simp (disch := omega) only [uo_e, uo_n]; try rfl }
      have u9 : ∀ k : Int, k ≠ 9 → ((mv_uo (mv_uo hh 263 (mv_ak ArrayType.boolean, 2, fun _ => 0)) 0 ((hh 0).1, (hh 0).2.1, mv_up (hh 0).2.2 9 263)) 0).2.2 k = (hh 0).2.2 k := fun k hk => by { rw [h00]; exact up_n hk }
      refine ⟨⟨⟨by rw [h00]; exact i0, by rw [u9 0 (by omega)]; exact i1, by rw [u9 2 (by omega)]; exact i3, by rw [u9 3 (by omega)]; exact i4, by rw [u9 4 (by omega)]; exact j1, by rw [u9 5 (by omega)]; exact j2, by rw [u9 6 (by omega)]; exact j3, by rw [u9 7 (by omega)]; exact j4, by rw [u9 8 (by omega)]; exact j5, by rw [h00]; exact (up_s : mv_up (hh 0).2.2 9 263 9 = 263), by rw [hz 14 (by omega) (by omega)]; exact i9, by rw [hz 14 (by omega) (by omega)]; exact i10, fun k q0 q1 => by rw [hz 14 (by omega) (by omega)]; exact (j6 k q0 q1).1, by rw [hz 252 (by omega) (by omega)]; exact j11, by rw [hz 252 (by omega) (by omega)]; exact j12, by rw [hz 252 (by omega) (by omega)]; exact k0.1, by rw [hz 252 (by omega) (by omega)]; exact k1.1, by rw [h263], by rw [h263]⟩, ⟨by rw [h00]; exact i0, by rw [u9 0 (by omega)]; exact i1, by rw [u9 1 (by omega)]; exact i2, by rw [hz 1 (by omega) (by omega)]; exact i5, by rw [hz 1 (by omega) (by omega)]; exact i6, Nat.zero_le _, fun k q0 q1 => by { have q1 : k < 0 := q1; omega }, fun k q0 q1 => by { have q1 : k < 0 := q1; omega }⟩, j7.kq (m := 0) ⟨fun i q0 q1 => by { have q1 : i < 0 := q1; omega }, fun i q0 q1 => by { have q1 : i < 0 := q1; omega }⟩ (fun b hb => hz b (by omega) (by omega)), j10.kq (m := 277) (fun j q0 q1 => by { have q1 : j < 0 := q1; omega }) (fun b hb => hz b (by omega) (by omega)), k0.2.kq (fun b hb => hz b (by omega) (by omega)), k1.2.kq (fun b hb => hz b (by omega) (by omega)), fun s hs => ⟨by rw [h263]; rfl, fun e => by cases e⟩, hmm, ⟨fun i q0 q1 => by { have q1 : i < 0 := q1; omega }, fun i q0 q1 => by { have q1 : i < 0 := q1; omega }⟩, fun j q0 q1 => by { have q1 : j < 0 := q1; omega }, fun s hs e => by cases e⟩, ⟨i8.kq (fun b b0 b1 => hz b (by omega) (by omega)), fun k q0 q1 => (j6 k q0 q1).2.kq (fun b b0 b1 => hz b (by omega) (by omega)), j8.kq (fun b hb => hz b (by omega) (by omega)), j9.kq (fun b hb => hz b (by omega) (by omega))⟩⟩
    · replace hb139 := cq_ge.2.mp hb139
      exfalso; first | omega | exact absurd trivial (by assumption)
  | succ m ih =>
    intro i a d hh ⟨hi, ha, hd, i0, i1, i2, i3, i4, ⟨i5, i6⟩, i7, i8, ⟨i9, i10⟩, j1, j2, j3, j4, j5, j6, j7, j8, j9, j10, ⟨j11, j12⟩, j13⟩
    have l1 : (hh 2).1 = 1 := i7.tag
    have hK : (mv_m 39).1 = kc_LT_init := rfl
    refine e_step (pc' := 134) hK rfl rfl rfl ?_
    refine e_step (pc' := 135) hK rfl rfl rfl ?_
    refine e_getR (ci := 0) (k := 8) (pc' := 138) hK rfl (by simp (disch := omega) only [i0, i1, i3, i4, i5, i6, i9, i10, l1, j5, j11, j12, uo_e, uo_n, up_s, up_n]) rfl rfl (by decide) (by decide) (by (try simp (disch := omega) only [i0, i1, i3, i4, i5, i6, i9, i10, l1, j5, j11, j12, uo_e, uo_n, up_s, up_n]); omega) rfl ?_
    try simp (disch := omega) only [i0, i1, i3, i4, i5, i6, i9, i10, l1, j5, j11, j12, uo_e, uo_n, up_s, up_n]
    refine e_alen (pc' := 139) hK rfl (by simp only [i0, i1, i3, i4, i5, i6, i9, i10, l1, j5, j11, j12, uo_e, uo_n, up_s, up_n]; decide) rfl ?_
    try simp (disch := omega) only [i0, i1, i3, i4, i5, i6, i9, i10, l1, j5, j11, j12, uo_e, uo_n, up_s, up_n]
    refine e_icmp (t := 162) (pc' := 142) hK rfl (by omega) (by omega) (by decide) rfl (fun hb139 => ?_) (fun hb139 => ?_)
    · replace hb139 := cq_ge.1.mp hb139
      exfalso; first | omega | exact absurd trivial (by assumption)
    · replace hb139 := cq_ge.2.mp hb139
      refine e_step (pc' := 143) hK rfl rfl rfl ?_
      refine e_getR (ci := 0) (k := 8) (pc' := 146) hK rfl (by simp (disch := omega) only [i0, i1, i3, i4, i5, i6, i9, i10, l1, j5, j11, j12, uo_e, uo_n, up_s, up_n]) rfl rfl (by decide) (by decide) (by (try simp (disch := omega) only [i0, i1, i3, i4, i5, i6, i9, i10, l1, j5, j11, j12, uo_e, uo_n, up_s, up_n]); omega) rfl ?_
      try simp (disch := omega) only [i0, i1, i3, i4, i5, i6, i9, i10, l1, j5, j11, j12, uo_e, uo_n, up_s, up_n]
      refine e_step (pc' := 147) hK rfl rfl rfl ?_
      refine e_new (ci := 2) (pc' := 150) hK rfl rfl (by decide) rfl ?_
      refine e_step (pc' := 151) hK rfl rfl rfl ?_
      refine e_step (pc' := 152) hK rfl rfl rfl ?_
      refine e_cQI2 (z := 15) hK rfl rfl rfl (Nat.le_of_ble_eq_true rfl) (Nat.le_of_ble_eq_true rfl) (c_stInit (253 + 5 * i) (a + 1) (d + mv_fn 2) (by omega) (uo_e rfl) (i7.kept (fun b b0 b1 => uo_n (by omega)))) ?_
      rintro _ _ g1 ⟨rfl, rfl, hs1, hf1⟩
      refine ⟨by decide, ?_⟩
      rw [if_pos rfl]
      have w252 : g1 252 = hh 252 := by { rw [hf1 252 (by omega), uo_n (by omega)] }
      have wt : (g1 ((253 + 5 * i : Nat) : Int)).1 = 2 := hs1.1.2.2.1
      show mv_Ev _ _ 155 _ _ _ _ _
      refine e_aast (pc' := 156) hK rfl (by simp (disch := omega) only [i0, i1, i3, i4, i5, i6, i9, i10, l1, j5, j11, j12, uo_e, uo_n, up_s, up_n, w252, wt]; decide) (by omega) (by (try simp (disch := omega) only [i0, i1, i3, i4, i5, i6, i9, i10, l1, j5, j11, j12, uo_e, uo_n, up_s, up_n, w252, wt]); omega) rfl ?_
      try simp (disch := omega) only [uo_e, uo_n]
      refine e_step (pc' := 159) hK rfl rfl rfl ?_
      try simp only [List.set_cons_zero, List.set_cons_succ]
      refine e_goto (t := 133) hK rfl (by decide) ?_
      have ec : ((253 + 5 * i + 5, a + 1 + 4, d + mv_fn 2 + 72) : mv_C) = (253 + 5 * (i + 1), a + 5, d + 79) := by { rw [show mv_fn 2 = 7 from rfl]; refine Prod.ext ?_ (Prod.ext ?_ ?_) <;> dsimp only <;> omega }
      rw [ec]
      have eq9 : ∀ b : Int, b < 252 → (mv_uo g1 252 ((g1 252).1, (g1 252).2.1, mv_up (g1 252).2.2 (i : Int) ((253 + 5 * i : Nat) : Int))) b = hh b := fun b hb => by { rw [uo_n (by omega), hf1 b (by omega), uo_n (by omega)] }
      refine ih (i + 1) (a + 5) (d + 79) _ ⟨by omega, by omega, by omega, by rw [eq9 0 (by omega)]; exact i0, by rw [eq9 0 (by omega)]; exact i1, by rw [eq9 0 (by omega)]; exact i2, by rw [eq9 0 (by omega)]; exact i3, by rw [eq9 0 (by omega)]; exact i4, ⟨by rw [eq9 1 (by omega)]; exact i5, by rw [eq9 1 (by omega)]; exact i6⟩, i7.kept (fun b b0 b1 => eq9 b (by omega)), i8.kq (fun b b0 b1 => eq9 b (by omega)), ⟨by rw [eq9 14 (by omega)]; exact i9, by rw [eq9 14 (by omega)]; exact i10⟩, by rw [eq9 0 (by omega)]; exact j1, by rw [eq9 0 (by omega)]; exact j2, by rw [eq9 0 (by omega)]; exact j3, by rw [eq9 0 (by omega)]; exact j4, by rw [eq9 0 (by omega)]; exact j5, fun k q0 q1 => ⟨by rw [eq9 14 (by omega)]; exact (j6 k q0 q1).1, (j6 k q0 q1).2.kq (fun b b0 b1 => eq9 b (by omega))⟩, j7.kq (m := 0) ⟨fun i q0 q1 => by { have q1 : i < 0 := q1; omega }, fun i q0 q1 => by { have q1 : i < 0 := q1; omega }⟩ (fun b hb => eq9 b (by omega)), j8.kq (fun b hb => eq9 b (by omega)), j9.kq (fun b hb => eq9 b (by omega)), j10.kq (m := 0) (fun j q0 q1 => by { have q1 : j < 0 := q1; omega }) (fun b hb => eq9 b (by omega)), ⟨by simp (disch := omega) only [uo_e, w252]; first | done | exact j11, by simp (disch := omega) only [uo_e, w252]; first | done | exact j12⟩, fun k q0 q1 => ⟨?_, ?_⟩⟩
      · simp (disch := omega) only [uo_e, w252]
        by_cases e : k = i
        · rw [e, up_s]; omega
        · rw [up_n e]; exact (j13 k q0 (by omega)).1
      · by_cases e : k = i
        · rw [e, show (253 + 5 * (i : Int)) = ((253 + 5 * i : Nat) : Int) from by omega]; exact hs1.1.kq (fun b hb => uo_n (by omega))
        · exact (j13 k q0 (by omega)).2.kq (fun b hb => by rw [uo_n (by omega), hf1 b (by omega), uo_n (by omega)])
end GK
