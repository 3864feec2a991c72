/-! constructor of the class (written by wip/whole/m80.py) -/
section GM
variable {sc : Int × (Int → Int)} {c : mv_C} {h : mv_H}
def LtQ (h : mv_H) (i : Int) : Prop := (h 0).1 = 0 ∧ (h 0).2.2 0 = 1 ∧ (h 0).2.2 1 = 0 ∧ (h 0).2.2 2 = 8 ∧ (h 0).2.2 3 = 14 ∧ ((h 1).1 = 11 ∧ (h 1).2.1 = 50) ∧ LnX h 2 x0 ∧ LnW h 8 ∧ ((h 14).1 = 14 ∧ (h 14).2.1 = 25) ∧ ∀ k : Int, 0 ≤ k → k < i → (h 14).2.2 k = 15 + 6 * k ∧ LnW h (15 + 6 * k)
theorem LtQ.kq {h h' : mv_H} {i : Int} (hL : LtQ h i) (hi : i ≤ 25) (h0 : (h' 0).1 = (h 0).1) (h1 : ∀ k : Int, k ≤ 3 → (h' 0).2.2 k = (h 0).2.2 k) (hk : ∀ b : Int, 1 ≤ b → b ≤ 164 → h' b = h b) : LtQ h' i := by
  obtain ⟨a0, a1, a2, a3, a4, ⟨a5, a6⟩, a7, a8, ⟨a9, a10⟩, a11⟩ := hL
  refine ⟨h0.trans a0, (h1 0 (by omega)).trans a1, (h1 1 (by omega)).trans a2, (h1 2 (by omega)).trans a3, (h1 3 (by omega)).trans a4, ⟨by rw [hk 1 (by omega) (by omega)]; exact a5, by rw [hk 1 (by omega) (by omega)]; exact a6⟩, a7.kept (fun b b0 b1 => hk b (by omega) (by omega)), a8.kq (fun b b0 b1 => hk b (by omega) (by omega)), ⟨by rw [hk 14 (by omega) (by omega)]; exact a9, by rw [hk 14 (by omega) (by omega)]; exact a10⟩, fun k k0 k1 => ⟨by rw [hk 14 (by omega) (by omega)]; exact (a11 k k0 k1).1, (a11 k k0 k1).2.kq (fun b b0 b1 => hk b (by omega) (by omega))⟩⟩
theorem LtQ.r0 {h : mv_H} {i : Int} (hL : LtQ h i) : (h 0).1 = 0 := hL.1
theorem LtQ.rx {h : mv_H} {i : Int} (hL : LtQ h i) : LnX h 2 x0 := by obtain ⟨a0, a1, a2, a3, a4, _, a7, a8, _, a11⟩ := hL; exact a7
theorem gR00 (m : Nat) : gR m ge0 := ⟨fun i q0 q1 => by { have q1 : i < 0 := q1; omega }, fun i q0 q1 => by { have q1 : i < 0 := q1; omega }⟩
set_option maxRecDepth 10000 in
theorem c_ltP1 {Q : mv_R → mv_C → mv_H → Prop} (a d : Nat) (hh : mv_H) : LtQ hh 25 → (∀ g : mv_H, LtQ g 25 → (g 0).2.2 4 = 165 → StA g 165 ge0 → mv_Ev sc 39 87 [(2, 0), (2, 2), (0, 25)] [] (170, a + 5, d + 79) g Q) → mv_Ev sc 39 75 [(2, 0), (2, 2), (0, 25)] [] (165, a, d) hh Q := by
  intro hP k0
  have r0 := hP.r0
  have l1 : (hh 2).1 = 1 := hP.rx.tag
  have hK : (mv_m 39).1 = kc_LT_init := rfl
  refine e_step (pc' := 76) hK rfl rfl rfl ?_
  refine e_new (ci := 2) (pc' := 79) hK rfl rfl (by decide) rfl ?_
  refine e_step (pc' := 80) hK rfl rfl rfl ?_
  refine e_step (pc' := 81) hK rfl rfl rfl ?_
  refine e_cQI2 (z := 15) hK rfl rfl rfl (Nat.le_of_ble_eq_true rfl) (Nat.le_of_ble_eq_true rfl) (c_stInit 165 (a + 1) (d + mv_fn 2) (by omega) (uo_e rfl) (hP.rx.kept (fun b b0 b1 => uo_n (by omega)))) ?_
  rintro _ _ g1 ⟨rfl, rfl, hs1, hf1⟩
  refine ⟨by decide, ?_⟩
  rw [if_pos rfl]
  have w0 : g1 0 = hh 0 := by { rw [hf1 0 (by omega), uo_n (by omega)] }
  show mv_Ev _ _ 84 _ _ _ _ _
  refine e_put (ci := 0) (k := 4) (pc' := 87) hK rfl (by simp (disch := omega) only [r0, l1, uo_e, uo_n, up_s, up_n, w0]) rfl rfl (by decide) rfl rfl ?_
  try simp (disch := omega) only [uo_e, uo_n]
  have ec : ((170, a + 1 + 4, d + mv_fn 2 + 72) : mv_C) = (170, a + 5, d + 79) := by { rw [show mv_fn 2 = 7 from rfl] }
  rw [ec]
  have eq9 : ∀ b : Int, b ≠ 0 → (b < 165 ∨ 169 < b) → (mv_uo g1 0 ((g1 0).1, (g1 0).2.1, mv_up (g1 0).2.2 4 ((165 : Nat) : Int))) b = hh b := fun b n0 hb => by { rw [uo_n (by omega), hf1 b (by omega), uo_n (by omega)] }
  have e0 : (mv_uo g1 0 ((g1 0).1, (g1 0).2.1, mv_up (g1 0).2.2 4 ((165 : Nat) : Int))) 0 = ((hh 0).1, (hh 0).2.1, mv_up (hh 0).2.2 4 165) := by { rw [uo_e rfl, w0]; rfl }
  have eu : ∀ k : Int, k ≠ 4 → ((mv_uo g1 0 ((g1 0).1, (g1 0).2.1, mv_up (g1 0).2.2 4 ((165 : Nat) : Int))) 0).2.2 k = (hh 0).2.2 k := fun k hk => by { rw [e0]; exact up_n hk }
  refine k0 _ (hP.kq (by omega) (by rw [e0]) (fun k hk => eu k (by omega)) (fun b b0 b1 => eq9 b (by omega) (by omega))) (by rw [e0]; exact (up_s : mv_up (hh 0).2.2 4 165 4 = 165)) (hs1.kq (gR00 0) (fun b hb => uo_n (by omega)))
set_option maxRecDepth 10000 in
theorem c_ltP2 {Q : mv_R → mv_C → mv_H → Prop} (a d : Nat) (hh : mv_H) : LtQ hh 25 → (hh 0).2.2 4 = 165 → StA hh 165 ge0 → (∀ g : mv_H, LtQ g 25 → (g 0).2.2 4 = 165 → (g 0).2.2 5 = 170 → StA g 165 ge0 → StA g 170 ge0 → mv_Ev sc 39 99 [(2, 0), (2, 2), (0, 25)] [] (175, a + 5, d + 79) g Q) → mv_Ev sc 39 87 [(2, 0), (2, 2), (0, 25)] [] (170, a, d) hh Q := by
  intro hP f4 s4 k0
  have r0 := hP.r0
  have l1 : (hh 2).1 = 1 := hP.rx.tag
  have hK : (mv_m 39).1 = kc_LT_init := rfl
  refine e_step (pc' := 88) hK rfl rfl rfl ?_
  refine e_new (ci := 2) (pc' := 91) hK rfl rfl (by decide) rfl ?_
  refine e_step (pc' := 92) hK rfl rfl rfl ?_
  refine e_step (pc' := 93) hK rfl rfl rfl ?_
  refine e_cQI2 (z := 15) hK rfl rfl rfl (Nat.le_of_ble_eq_true rfl) (Nat.le_of_ble_eq_true rfl) (c_stInit 170 (a + 1) (d + mv_fn 2) (by omega) (uo_e rfl) (hP.rx.kept (fun b b0 b1 => uo_n (by omega)))) ?_
  rintro _ _ g1 ⟨rfl, rfl, hs1, hf1⟩
  refine ⟨by decide, ?_⟩
  rw [if_pos rfl]
  have w0 : g1 0 = hh 0 := by { rw [hf1 0 (by omega), uo_n (by omega)] }
  show mv_Ev _ _ 96 _ _ _ _ _
  refine e_put (ci := 0) (k := 5) (pc' := 99) hK rfl (by simp (disch := omega) only [r0, l1, uo_e, uo_n, up_s, up_n, w0]) rfl rfl (by decide) rfl rfl ?_
  try simp (disch := omega) only [uo_e, uo_n]
  have ec : ((175, a + 1 + 4, d + mv_fn 2 + 72) : mv_C) = (175, a + 5, d + 79) := by { rw [show mv_fn 2 = 7 from rfl] }
  rw [ec]
  have eq9 : ∀ b : Int, b ≠ 0 → (b < 170 ∨ 174 < b) → (mv_uo g1 0 ((g1 0).1, (g1 0).2.1, mv_up (g1 0).2.2 5 ((170 : Nat) : Int))) b = hh b := fun b n0 hb => by { rw [uo_n (by omega), hf1 b (by omega), uo_n (by omega)] }
  have e0 : (mv_uo g1 0 ((g1 0).1, (g1 0).2.1, mv_up (g1 0).2.2 5 ((170 : Nat) : Int))) 0 = ((hh 0).1, (hh 0).2.1, mv_up (hh 0).2.2 5 170) := by { rw [uo_e rfl, w0]; rfl }
  have eu : ∀ k : Int, k ≠ 5 → ((mv_uo g1 0 ((g1 0).1, (g1 0).2.1, mv_up (g1 0).2.2 5 ((170 : Nat) : Int))) 0).2.2 k = (hh 0).2.2 k := fun k hk => by { rw [e0]; exact up_n hk }
  refine k0 _ (hP.kq (by omega) (by rw [e0]) (fun k hk => eu k (by omega)) (fun b b0 b1 => eq9 b (by omega) (by omega))) (by rw [eu 4 (by omega)]; exact f4) (by rw [e0]; exact (up_s : mv_up (hh 0).2.2 5 170 5 = 170)) (s4.kq (gR00 0) (fun b hb => eq9 b (by omega) (by omega))) (hs1.kq (gR00 0) (fun b hb => uo_n (by omega)))
set_option maxRecDepth 10000 in
theorem c_ltP3 {Q : mv_R → mv_C → mv_H → Prop} (a d : Nat) (hh : mv_H) : LtQ hh 25 → (hh 0).2.2 4 = 165 → (hh 0).2.2 5 = 170 → StA hh 165 ge0 → StA hh 170 ge0 → (∀ g : mv_H, LtQ g 25 → (g 0).2.2 4 = 165 → (g 0).2.2 5 = 170 → (g 0).2.2 6 = 175 → StA g 165 ge0 → StA g 170 ge0 → StA g 175 ge0 → mv_Ev sc 39 111 [(2, 0), (2, 2), (0, 25)] [] (180, a + 5, d + 79) g Q) → mv_Ev sc 39 99 [(2, 0), (2, 2), (0, 25)] [] (175, a, d) hh Q := by
  intro hP f4 f5 s4 s5 k0
  have r0 := hP.r0
  have l1 : (hh 2).1 = 1 := hP.rx.tag
  have hK : (mv_m 39).1 = kc_LT_init := rfl
  refine e_step (pc' := 100) hK rfl rfl rfl ?_
  refine e_new (ci := 2) (pc' := 103) hK rfl rfl (by decide) rfl ?_
  refine e_step (pc' := 104) hK rfl rfl rfl ?_
  refine e_step (pc' := 105) hK rfl rfl rfl ?_
  refine e_cQI2 (z := 15) hK rfl rfl rfl (Nat.le_of_ble_eq_true rfl) (Nat.le_of_ble_eq_true rfl) (c_stInit 175 (a + 1) (d + mv_fn 2) (by omega) (uo_e rfl) (hP.rx.kept (fun b b0 b1 => uo_n (by omega)))) ?_
  rintro _ _ g1 ⟨rfl, rfl, hs1, hf1⟩
  refine ⟨by decide, ?_⟩
  rw [if_pos rfl]
  have w0 : g1 0 = hh 0 := by { rw [hf1 0 (by omega), uo_n (by omega)] }
  show mv_Ev _ _ 108 _ _ _ _ _
  refine e_put (ci := 0) (k := 6) (pc' := 111) hK rfl (by simp (disch := omega) only [r0, l1, uo_e, uo_n, up_s, up_n, w0]) rfl rfl (by decide) rfl rfl ?_
  try simp (disch := omega) only [uo_e, uo_n]
  have ec : ((180, a + 1 + 4, d + mv_fn 2 + 72) : mv_C) = (180, a + 5, d + 79) := by { rw [show mv_fn 2 = 7 from rfl] }
  rw [ec]
  have eq9 : ∀ b : Int, b ≠ 0 → (b < 175 ∨ 179 < b) → (mv_uo g1 0 ((g1 0).1, (g1 0).2.1, mv_up (g1 0).2.2 6 ((175 : Nat) : Int))) b = hh b := fun b n0 hb => by { rw [uo_n (by omega), hf1 b (by omega), uo_n (by omega)] }
  have e0 : (mv_uo g1 0 ((g1 0).1, (g1 0).2.1, mv_up (g1 0).2.2 6 ((175 : Nat) : Int))) 0 = ((hh 0).1, (hh 0).2.1, mv_up (hh 0).2.2 6 175) := by { rw [uo_e rfl, w0]; rfl }
  have eu : ∀ k : Int, k ≠ 6 → ((mv_uo g1 0 ((g1 0).1, (g1 0).2.1, mv_up (g1 0).2.2 6 ((175 : Nat) : Int))) 0).2.2 k = (hh 0).2.2 k := fun k hk => by { rw [e0]; exact up_n hk }
  refine k0 _ (hP.kq (by omega) (by rw [e0]) (fun k hk => eu k (by omega)) (fun b b0 b1 => eq9 b (by omega) (by omega))) (by rw [eu 4 (by omega)]; exact f4) (by rw [eu 5 (by omega)]; exact f5) (by rw [e0]; exact (up_s : mv_up (hh 0).2.2 6 175 6 = 175)) (s4.kq (gR00 0) (fun b hb => eq9 b (by omega) (by omega))) (s5.kq (gR00 0) (fun b hb => eq9 b (by omega) (by omega))) (hs1.kq (gR00 0) (fun b hb => uo_n (by omega)))
set_option maxRecDepth 10000 in
theorem c_ltP4 (O P : Nat) (a d : Nat) (hO : a + 88 ≤ O) (hP9 : d + 1293 ≤ P) (hh : mv_H) : LtQ hh 25 → (hh 0).2.2 4 = 165 → (hh 0).2.2 5 = 170 → (hh 0).2.2 6 = 175 → StA hh 165 ge0 → StA hh 170 ge0 → StA hh 175 ge0 → mv_Ev sc 39 111 [(2, 0), (2, 2), (0, 25)] [] (180, a, d) hh (fun r c' h' => r = (3, 0) ∧ c'.1 = 264 ∧ c'.2.1 ≤ O ∧ c'.2.2 ≤ P ∧ ∀ m : Nat, 277 ≤ m → LtA m h' ((0, fun _ => 0, ge0, 0, fun _ => ge0, fun _ => false, fun _ => ge0) : wt)) := by
  intro hP f4 f5 f6 s4 s5 s6
  have r0 := hP.r0
  have l1 : (hh 2).1 = 1 := hP.rx.tag
  have hK : (mv_m 39).1 = kc_LT_init := rfl
  refine e_step (pc' := 112) hK rfl rfl rfl ?_
  refine e_new (ci := 3) (pc' := 115) hK rfl rfl (by decide) rfl ?_
  refine e_step (pc' := 116) hK rfl rfl rfl ?_
  refine e_step (pc' := 117) hK rfl rfl rfl ?_
  refine e_cQI2 (z := 34) hK rfl rfl rfl (Nat.le_of_ble_eq_true rfl) (Nat.le_of_ble_eq_true rfl) (c_hsInit (hP.rx.kept (fun b b0 b1 => uo_n (by omega))) (a + 1) (d + mv_fn 3) (fun _ => ge0) (uo_e rfl)) ?_
  rintro _ _ g1 ⟨rfl, rfl, hs1, hf1⟩
  refine ⟨by decide, ?_⟩
  rw [if_pos rfl]
  have w0 : g1 0 = hh 0 := by { rw [hf1 0 (by omega), uo_n (by omega)] }
  show mv_Ev _ _ 120 _ _ _ _ _
  refine e_put (ci := 0) (k := 7) (pc' := 123) hK rfl (by simp (disch := omega) only [r0, l1, uo_e, uo_n, up_s, up_n, w0]) rfl rfl (by decide) rfl rfl ?_
  try simp (disch := omega) only [uo_e, uo_n]
  refine e_step (pc' := 124) hK rfl rfl rfl ?_
  refine e_step (pc' := 125) hK rfl rfl rfl ?_
  refine e_anew (k := 15) (pc' := 128) hK rfl (by omega) (by omega) rfl (by decide) rfl ?_
  refine e_put (ci := 0) (k := 8) (pc' := 131) hK rfl (by simp (disch := omega) only [r0, l1, uo_e, uo_n, up_s, up_n, w0]) rfl rfl (by decide) rfl rfl ?_
  try simp (disch := omega) only [uo_e, uo_n]
  refine e_step (pc' := 132) hK rfl rfl rfl ?_
  refine e_step (pc' := 133) hK rfl rfl rfl ?_
  try simp only [List.set_cons_zero, List.set_cons_succ]
  have eq9 : ∀ b : Int, b ≠ 0 → b < 180 → (mv_uo (mv_uo (mv_uo g1 0 ((g1 0).1, (g1 0).2.1, mv_up (g1 0).2.2 7 ((180 : Nat) : Int))) ((252 : Nat) : Int) (15, 2, fun _ => -1)) 0 ((g1 0).1, (g1 0).2.1, mv_up (mv_up (g1 0).2.2 7 ((180 : Nat) : Int)) 8 ((252 : Nat) : Int))) b = hh b := fun b n0 hb => by { rw [uo_n (by omega), uo_n (by omega), uo_n (by omega), hf1 b (by omega), uo_n (by omega)] }
  have eqh : ∀ b : Int, b ≠ 0 → b < 252 → (mv_uo (mv_uo (mv_uo g1 0 ((g1 0).1, (g1 0).2.1, mv_up (g1 0).2.2 7 ((180 : Nat) : Int))) ((252 : Nat) : Int) (15, 2, fun _ => -1)) 0 ((g1 0).1, (g1 0).2.1, mv_up (mv_up (g1 0).2.2 7 ((180 : Nat) : Int)) 8 ((252 : Nat) : Int))) b = g1 b := fun b n0 hb => by { rw [uo_n (by omega), uo_n (by omega), uo_n (by omega)] }
  have e0 : (mv_uo (mv_uo (mv_uo g1 0 ((g1 0).1, (g1 0).2.1, mv_up (g1 0).2.2 7 ((180 : Nat) : Int))) ((252 : Nat) : Int) (15, 2, fun _ => -1)) 0 ((g1 0).1, (g1 0).2.1, mv_up (mv_up (g1 0).2.2 7 ((180 : Nat) : Int)) 8 ((252 : Nat) : Int))) 0 = ((hh 0).1, (hh 0).2.1, mv_up (mv_up (hh 0).2.2 7 ((180 : Nat) : Int)) 8 ((252 : Nat) : Int)) := by { rw [uo_e rfl, w0] }
  have e252 : (mv_uo (mv_uo (mv_uo g1 0 ((g1 0).1, (g1 0).2.1, mv_up (g1 0).2.2 7 ((180 : Nat) : Int))) ((252 : Nat) : Int) (15, 2, fun _ => -1)) 0 ((g1 0).1, (g1 0).2.1, mv_up (mv_up (g1 0).2.2 7 ((180 : Nat) : Int)) 8 ((252 : Nat) : Int))) 252 = (15, 2, fun _ => -1) := by { rw [uo_n (by omega)]; exact uo_e rfl }
  have eu : ∀ k : Int, k < 7 → ((mv_uo (mv_uo (mv_uo g1 0 ((g1 0).1, (g1 0).2.1, mv_up (g1 0).2.2 7 ((180 : Nat) : Int))) ((252 : Nat) : Int) (15, 2, fun _ => -1)) 0 ((g1 0).1, (g1 0).2.1, mv_up (mv_up (g1 0).2.2 7 ((180 : Nat) : Int)) 8 ((252 : Nat) : Int))) 0).2.2 k = (hh 0).2.2 k := fun k hk => by { rw [e0]; exact (up_n (by omega)).trans (up_n (by omega)) }
  obtain ⟨a0, a1, a2, a3, a4, ⟨a5, a6⟩, a7, a8, ⟨a9, a10⟩, a11⟩ := hP.kq (h' := (mv_uo (mv_uo (mv_uo g1 0 ((g1 0).1, (g1 0).2.1, mv_up (g1 0).2.2 7 ((180 : Nat) : Int))) ((252 : Nat) : Int) (15, 2, fun _ => -1)) 0 ((g1 0).1, (g1 0).2.1, mv_up (mv_up (g1 0).2.2 7 ((180 : Nat) : Int)) 8 ((252 : Nat) : Int)))) (by omega) (by rw [e0]) (fun k hk => eu k (by omega)) (fun b b0 b1 => eq9 b (by omega) (by omega))
  exact c_ltI2 O P 2 0 (a + 1 + 71 + 1) (d + mv_fn 3 + 1120 + 2) _ ⟨rfl, by omega, by rw [show mv_fn 3 = 3 from rfl]; omega, a0, a1, a2, a3, a4, ⟨a5, a6⟩, a7, a8, ⟨a9, a10⟩, by rw [eu 4 (by omega)]; exact f4, by rw [eu 5 (by omega)]; exact f5, by rw [eu 6 (by omega)]; exact f6, by rw [e0]; rfl, by rw [e0]; rfl, a11, s4.kq (gR00 0) (fun b hb => eq9 b (by omega) (by omega)), s5.1.kq (fun b hb => eq9 b (by omega) (by omega)), s6.1.kq (fun b hb => eq9 b (by omega) (by omega)), hs1.kq (m := 0) (fun j q0 q1 => by { have q1 : j < 0 := q1; omega }) (fun b hb => eqh b (by omega) (by omega)), ⟨by rw [e252], by rw [e252]⟩, fun k q0 q1 => by omega⟩
set_option maxRecDepth 10000 in
theorem c_ltI1 (O P : Nat) : ∀ (m : Nat) (i a d : Nat) (hh : mv_H), (i + m = 25 ∧ a + 6 * m + 103 ≤ O ∧ d + 95 * m + 1530 ≤ P ∧ LtQ hh i) → mv_Ev sc 39 47 [(2, 0), (2, 2), (0, (i : Int))] [] (15 + 6 * i, a, d) hh (fun r c' h' => r = (3, 0) ∧ c'.1 = 264 ∧ c'.2.1 ≤ O ∧ c'.2.2 ≤ P ∧ ∀ m : Nat, 277 ≤ m → LtA m h' ((0, fun _ => 0, ge0, 0, fun _ => ge0, fun _ => false, fun _ => ge0) : wt)) := by
  intro m
  induction m with
  | zero =>
    intro i a d hh ⟨hi, hO, hP9, hP⟩
    have r0 := hP.r0
    have r3 : (hh 0).2.2 3 = 14 := hP.2.2.2.2.1
    have t14 : (hh 14).1 = 14 := hP.2.2.2.2.2.2.2.2.1.1
    have n14 : (hh 14).2.1 = 25 := hP.2.2.2.2.2.2.2.2.1.2
    have hK : (mv_m 39).1 = kc_LT_init := rfl
    refine e_step (pc' := 48) hK rfl rfl rfl ?_
    refine e_step (pc' := 49) hK rfl rfl rfl ?_
    refine e_getR (ci := 0) (k := 3) (pc' := 52) hK rfl (by simp (disch := omega) only [r0, r3, t14, n14, uo_e, uo_n, up_s, up_n]) rfl rfl (by decide) (by decide) (by (try simp (disch := omega) only [r0, r3, t14, n14, uo_e, uo_n, up_s, up_n]); omega) rfl ?_
    try simp (disch := omega) only [r0, r3, t14, n14, uo_e, uo_n, up_s, up_n]
    refine e_alen (pc' := 53) hK rfl (by simp only [r0, r3, t14, n14, uo_e, uo_n, up_s, up_n]; decide) rfl ?_
    try simp (disch := omega) only [r0, r3, t14, n14, uo_e, uo_n, up_s, up_n]
    refine e_icmp (t := 75) (pc' := 56) hK rfl (by omega) (by omega) (by decide) rfl (fun hb53 => ?_) (fun hb53 => ?_)
    · replace hb53 := cq_ge.1.mp hb53
      have e : i = 25 := by omega
      subst e
      refine c_ltP1 a d hh hP (fun q1 y0 y4 z4 => ?_)
      refine c_ltP2 (a + 5) (d + 79) q1 y0 y4 z4 (fun q2 u0 u4 u5 v4 v5 => ?_)
      refine c_ltP3 (a + 5 + 5) (d + 79 + 79) q2 u0 u4 u5 v4 v5 (fun q3 x0 x4 x5 x6 w4 w5 w6 => ?_)
      exact c_ltP4 O P (a + 5 + 5 + 5) (d + 79 + 79 + 79) (by omega) (by omega) q3 x0 x4 x5 x6 w4 w5 w6
    · replace hb53 := cq_ge.2.mp hb53
      exfalso; first | omega | exact absurd trivial (by assumption)
  | succ m ih =>
    intro i a d hh ⟨hi, hO, hP9, hP⟩
    have r0 := hP.r0
    have r3 : (hh 0).2.2 3 = 14 := hP.2.2.2.2.1
    have t14 : (hh 14).1 = 14 := hP.2.2.2.2.2.2.2.2.1.1
    have n14 : (hh 14).2.1 = 25 := hP.2.2.2.2.2.2.2.2.1.2
    have hK : (mv_m 39).1 = kc_LT_init := rfl
    refine e_step (pc' := 48) hK rfl rfl rfl ?_
    refine e_step (pc' := 49) hK rfl rfl rfl ?_
    refine e_getR (ci := 0) (k := 3) (pc' := 52) hK rfl (by simp (disch := omega) only [r0, r3, t14, n14, uo_e, uo_n, up_s, up_n]) rfl rfl (by decide) (by decide) (by (try simp (disch := omega) only [r0, r3, t14, n14, uo_e, uo_n, up_s, up_n]); omega) rfl ?_
    try simp (disch := omega) only [r0, r3, t14, n14, uo_e, uo_n, up_s, up_n]
    refine e_alen (pc' := 53) hK rfl (by simp only [r0, r3, t14, n14, uo_e, uo_n, up_s, up_n]; decide) rfl ?_
    try simp (disch := omega) only [r0, r3, t14, n14, uo_e, uo_n, up_s, up_n]
    refine e_icmp (t := 75) (pc' := 56) hK rfl (by omega) (by omega) (by decide) rfl (fun hb53 => ?_) (fun hb53 => ?_)
    · replace hb53 := cq_ge.1.mp hb53
      exfalso; first | omega | exact absurd trivial (by assumption)
    · replace hb53 := cq_ge.2.mp hb53
      refine e_step (pc' := 57) hK rfl rfl rfl ?_
      refine e_getR (ci := 0) (k := 3) (pc' := 60) hK rfl (by simp (disch := omega) only [r0, r3, t14, n14, uo_e, uo_n, up_s, up_n]) rfl rfl (by decide) (by decide) (by (try simp (disch := omega) only [r0, r3, t14, n14, uo_e, uo_n, up_s, up_n]); omega) rfl ?_
      try simp (disch := omega) only [r0, r3, t14, n14, uo_e, uo_n, up_s, up_n]
      refine e_step (pc' := 61) hK rfl rfl rfl ?_
      refine e_new (ci := 1) (pc' := 64) hK rfl rfl (by decide) rfl ?_
      refine e_step (pc' := 65) hK rfl rfl rfl ?_
      refine e_cQI1 (z := 4) hK rfl rfl rfl (Nat.le_of_ble_eq_true rfl) (Nat.le_of_ble_eq_true rfl) (c_lineInit (15 + 6 * i) (a + 1) (d + mv_fn 1) (uo_e rfl)) ?_
      rintro _ _ g1 ⟨rfl, rfl, hs1, hf1⟩
      refine ⟨by decide, ?_⟩
      rw [if_pos rfl]
      have w14 : g1 14 = hh 14 := by { rw [hf1 14 (by omega), uo_n (by omega)] }
      have wt : (g1 ((15 + 6 * i : Nat) : Int)).1 = 1 := (hs1 x0.2).1.2.1
      show mv_Ev _ _ 68 _ _ _ _ _
      refine e_aast (pc' := 69) hK rfl (by simp (disch := omega) only [r0, r3, t14, n14, uo_e, uo_n, up_s, up_n, w14, wt]; decide) (by omega) (by (try simp (disch := omega) only [r0, r3, t14, n14, uo_e, uo_n, up_s, up_n, w14, wt]); omega) rfl ?_
      try simp (disch := omega) only [uo_e, uo_n]
      refine e_step (pc' := 72) hK rfl rfl rfl ?_
      try simp only [List.set_cons_zero, List.set_cons_succ]
      refine e_goto (t := 47) hK rfl (by decide) ?_
      have ec : ((15 + 6 * i + 6, a + 1 + 5, d + mv_fn 1 + 88) : mv_C) = (15 + 6 * (i + 1), a + 6, d + 95) := by { rw [show mv_fn 1 = 7 from rfl]; refine Prod.ext ?_ (Prod.ext ?_ ?_) <;> dsimp only <;> omega }
      rw [ec]
      obtain ⟨a0, a1, a2, a3, a4, ⟨a5, a6⟩, a7, a8, ⟨a9, a10⟩, a11⟩ := hP
      have eq9 : ∀ b : Int, b ≠ 14 → b < 15 + 6 * i → (mv_uo g1 14 ((g1 14).1, (g1 14).2.1, mv_up (g1 14).2.2 (i : Int) ((15 + 6 * i : Nat) : Int))) b = hh b := fun b n0 hb => by { rw [uo_n (by omega), hf1 b (by omega), uo_n (by omega)] }
      refine ih (i + 1) (a + 6) (d + 95) _ ⟨by omega, by omega, by omega, by rw [eq9 0 (by omega) (by omega)]; exact a0, by rw [eq9 0 (by omega) (by omega)]; exact a1, by rw [eq9 0 (by omega) (by omega)]; exact a2, by rw [eq9 0 (by omega) (by omega)]; exact a3, by rw [eq9 0 (by omega) (by omega)]; exact a4, ⟨by rw [eq9 1 (by omega) (by omega)]; exact a5, by rw [eq9 1 (by omega) (by omega)]; exact a6⟩, a7.kept (fun b b0 b1 => eq9 b (by omega) (by omega)), a8.kq (fun b b0 b1 => eq9 b (by omega) (by omega)), ⟨by rw [uo_e rfl]; dsimp only; rw [w14]; exact a9, by rw [uo_e rfl]; dsimp only; rw [w14]; exact a10⟩, fun k q0 q1 => ⟨?_, ?_⟩⟩
      · rw [uo_e rfl]; dsimp only; rw [w14]
        by_cases e : k = i
        · rw [e, up_s]; omega
        · rw [up_n e]; exact (a11 k q0 (by omega)).1
      · by_cases e : k = i
        · rw [e, show (15 + 6 * (i : Int)) = ((15 + 6 * i : Nat) : Int) from by omega]; exact (hs1 x0.2).1.kq (fun b b0 b1 => uo_n (by omega))
        · exact (a11 k q0 (by omega)).2.kq (fun b b0 b1 => by rw [uo_n (by omega), hf1 b (by omega), uo_n (by omega)])
set_option maxRecDepth 10000 in
theorem f_init (o s : Nat) (hn : h 0 = (0, 10, mv_df 0)) : mv_Cl sc q_LT_init [(2, 0)] (1, o, s) h (fun r c' h' => r = (3, 0) ∧ c'.1 = 264 ∧ c'.2.1 ≤ o + 270 ∧ c'.2.2 ≤ s + 4200 ∧ ∀ m : Nat, 277 ≤ m → LtA m h' ((0, fun _ => 0, ge0, 0, fun _ => ge0, fun _ => false, fun _ => ge0) : wt)) := by
  show mv_Ev sc 39 0 [(2, 0), (5, 0), (5, 0)] [] (1, o, s) h _
  have hK : (mv_m 39).1 = kc_LT_init := rfl
  refine e_step (pc' := 1) hK rfl rfl rfl ?_
  refine e_cQI1 (z := 3) hK rfl rfl rfl (Nat.le_of_ble_eq_true rfl) (Nat.le_of_ble_eq_true rfl) (c_objInit _) ?_
  rintro _ _ _ ⟨rfl, rfl, rfl⟩
  refine ⟨by decide, ?_⟩
  rw [if_pos rfl]
  show mv_Ev _ _ 4 _ _ _ _ _
  refine e_step (pc' := 5) hK rfl rfl rfl ?_
  refine e_step (pc' := 7) hK rfl rfl rfl ?_
  refine e_newarr (pc' := 9) hK rfl (by omega) (by omega) rfl (by decide) rfl ?_
  refine e_put (ci := 0) (k := 0) (pc' := 12) hK rfl (by simp (disch := omega) only [hn, uo_e, uo_n, up_s, up_n]) rfl rfl (by decide) rfl rfl ?_
  try simp (disch := omega) only [uo_e, uo_n, up_s, up_n, hn]
  refine e_new (ci := 1) (pc' := 15) hK rfl rfl (by decide) rfl ?_
  refine e_step (pc' := 16) hK rfl rfl rfl ?_
  refine e_cQI1 (z := 4) hK rfl rfl rfl (Nat.le_of_ble_eq_true rfl) (Nat.le_of_ble_eq_true rfl) (c_lineInit 2 (o + 1 + 1) (s + 50 + mv_fn 1) (uo_e rfl)) ?_
  rintro _ _ g2 ⟨rfl, rfl, hs2, hf2⟩
  refine ⟨by decide, ?_⟩
  rw [if_pos rfl]
  have t2 : (g2 2).1 = 1 := (hs2 x0.2).1.2.1
  have w0 : g2 0 = _ := (hf2 0 (by omega)).trans ((uo_n (by omega)).trans (uo_e rfl))
  show mv_Ev _ _ 19 _ _ _ _ _
  refine e_step (pc' := 20) hK rfl rfl rfl ?_
  try simp only [List.set_cons_zero, List.set_cons_succ]
  refine e_step (pc' := 21) hK rfl rfl rfl ?_
  refine e_step (pc' := 22) hK rfl rfl rfl ?_
  refine e_put (ci := 0) (k := 1) (pc' := 25) hK rfl (by simp (disch := omega) only [hn, uo_e, uo_n, up_s, up_n, t2, w0]) rfl rfl (by decide) rfl rfl ?_
  try simp (disch := omega) only [uo_e, uo_n, up_s, up_n, hn]
  refine e_step (pc' := 26) hK rfl rfl rfl ?_
  refine e_new (ci := 1) (pc' := 29) hK rfl rfl (by decide) rfl ?_
  refine e_step (pc' := 30) hK rfl rfl rfl ?_
  refine e_cQI1 (z := 4) hK rfl rfl rfl (Nat.le_of_ble_eq_true rfl) (Nat.le_of_ble_eq_true rfl) (c_lineInit 8 (o + 1 + 1 + 5 + 1) (s + 50 + mv_fn 1 + 88 + mv_fn 1) (uo_e rfl)) ?_
  rintro _ _ g8 ⟨rfl, rfl, hs8, hf8⟩
  refine ⟨by decide, ?_⟩
  rw [if_pos rfl]
  have t8 : (g8 8).1 = 1 := (hs8 x0.2).1.2.1
  have w8 : g8 0 = _ := (hf8 0 (by omega)).trans (uo_n (by omega))
  show mv_Ev _ _ 33 _ _ _ _ _
  refine e_put (ci := 0) (k := 2) (pc' := 36) hK rfl (by simp (disch := omega) only [hn, uo_e, uo_n, up_s, up_n, t2, w0, t8, w8]) rfl rfl (by decide) rfl rfl ?_
  try simp (disch := omega) only [uo_e, uo_n, up_s, up_n, hn]
  refine e_step (pc' := 37) hK rfl rfl rfl ?_
  refine e_step (pc' := 39) hK rfl rfl rfl ?_
  refine e_anew (k := 14) (pc' := 42) hK rfl (by omega) (by omega) rfl (by decide) rfl ?_
  refine e_put (ci := 0) (k := 3) (pc' := 45) hK rfl (by simp (disch := omega) only [hn, uo_e, uo_n, up_s, up_n, t2, w0, t8, w8]) rfl rfl (by decide) rfl rfl ?_
  try simp (disch := omega) only [uo_e, uo_n, up_s, up_n, hn]
  refine e_step (pc' := 46) hK rfl rfl rfl ?_
  refine e_step (pc' := 47) hK rfl rfl rfl ?_
  try simp only [List.set_cons_zero, List.set_cons_succ]
  refine c_ltI1 (o + 270) (s + 4200) 25 0 _ _ _ ⟨rfl, ?_, ?_, ?_⟩
  · omega
  · have y1 : mv_fn 1 = 7 := rfl
    have y2 : (25 : Int).toNat = 25 := rfl
    have y3 : (50 : Int).toNat = 50 := rfl
    simp only [y1, y2, y3]; omega
  · have a0 : g8 0 = (0, 10, mv_up (mv_up (mv_df 0) 0 1) 1 0) := by { rw [w8, uo_e rfl, w0]; rfl }
    have k2 : ∀ b : Int, 2 ≤ b → b ≤ 7 → (mv_uo (mv_uo (mv_uo g8 0 ((g8 0).1, (g8 0).2.1, mv_up (g8 0).2.2 2 ((2 + 6 : Nat) : Int))) ((8 + 6 : Nat) : Int) (14, 25, fun _ => -1)) 0 ((g8 0).1, (g8 0).2.1, mv_up (mv_up (g8 0).2.2 2 ((2 + 6 : Nat) : Int)) 3 ((8 + 6 : Nat) : Int))) b = g2 b := fun b b0 b1 => by { rw [uo_n (by omega), uo_n (by omega), uo_n (by omega), hf8 b (by omega), uo_n (by omega), uo_n (by omega)] }
    have k8 : ∀ b : Int, 8 ≤ b → b ≤ 13 → (mv_uo (mv_uo (mv_uo g8 0 ((g8 0).1, (g8 0).2.1, mv_up (g8 0).2.2 2 ((2 + 6 : Nat) : Int))) ((8 + 6 : Nat) : Int) (14, 25, fun _ => -1)) 0 ((g8 0).1, (g8 0).2.1, mv_up (mv_up (g8 0).2.2 2 ((2 + 6 : Nat) : Int)) 3 ((8 + 6 : Nat) : Int))) b = g8 b := fun b b0 b1 => by { rw [uo_n (by omega), uo_n (by omega), uo_n (by omega)] }
    have q0 : (mv_uo (mv_uo (mv_uo g8 0 ((g8 0).1, (g8 0).2.1, mv_up (g8 0).2.2 2 ((2 + 6 : Nat) : Int))) ((8 + 6 : Nat) : Int) (14, 25, fun _ => -1)) 0 ((g8 0).1, (g8 0).2.1, mv_up (mv_up (g8 0).2.2 2 ((2 + 6 : Nat) : Int)) 3 ((8 + 6 : Nat) : Int))) 0 = (0, 10, mv_up (mv_up (mv_up (mv_up (mv_df 0) 0 1) 1 0) 2 8) 3 14) := by { rw [uo_e rfl, a0]; rfl }
    have q1 : (mv_uo (mv_uo (mv_uo g8 0 ((g8 0).1, (g8 0).2.1, mv_up (g8 0).2.2 2 ((2 + 6 : Nat) : Int))) ((8 + 6 : Nat) : Int) (14, 25, fun _ => -1)) 0 ((g8 0).1, (g8 0).2.1, mv_up (mv_up (g8 0).2.2 2 ((2 + 6 : Nat) : Int)) 3 ((8 + 6 : Nat) : Int))) 1 = (11, 50, fun _ => 0) := by { rw [uo_n (by omega), uo_n (by omega), uo_n (by omega), hf8 1 (by omega), uo_n (by omega), uo_n (by omega), hf2 1 (by omega), uo_n (by omega), uo_n (by omega)]; exact uo_e rfl }
    have q14 : (mv_uo (mv_uo (mv_uo g8 0 ((g8 0).1, (g8 0).2.1, mv_up (g8 0).2.2 2 ((2 + 6 : Nat) : Int))) ((8 + 6 : Nat) : Int) (14, 25, fun _ => -1)) 0 ((g8 0).1, (g8 0).2.1, mv_up (mv_up (g8 0).2.2 2 ((2 + 6 : Nat) : Int)) 3 ((8 + 6 : Nat) : Int))) 14 = (14, 25, fun _ => -1) := by { rw [uo_n (by omega)]; exact uo_e rfl }
    refine ⟨by rw [q0], by rw [q0]; rfl, by rw [q0]; rfl, by rw [q0]; rfl, by rw [q0]; rfl, ⟨by rw [q1], by rw [q1]⟩, ⟨⟨by unfold mv_out; omega, rfl⟩, (hs2 x0.2).kept (fun b b0 b1 => k2 b b0 (by omega))⟩, (hs8 x0.2).1.kq (fun b b0 b1 => k8 b b0 (by omega)), ⟨by rw [q14], by rw [q14]⟩, fun k k0 k1 => by omega⟩
end GM
