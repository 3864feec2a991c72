/-! the reference's heap, rows and pieces (written by wip/whole/m40.py) -/
def md_c (g : Int → Int) : Int → Int := fun k => if k = 1 then 265 else if k = 3 then 266 else if k = 4 then 267 else if k = 5 then 268 else if k = 6 then 269 else if k = 8 then 270 else if k = 9 then 271 else if k = 10 then 272 else if k = 11 then 273 else if k = 12 then 274 else if k = 14 then 275 else g k
def md_t (b : Int) : Nat := if b = 271 then 12 else 10
def md_l (b : Int) : Int := if b = 265 then 50 else if b = 269 then 17094 else if b = 270 then 2442 else if b = 271 then 2 else if b = 275 then 64 else if 272 ≤ b then 24 else 1221
abbrev mvt : Type := Int → Int → Int
/-- the heap h with the reference's objects, contents v -/
def mH (h : mv_H) (v : mvt) : mv_H := fun b => if b = 264 then (4, 16, md_c (v 264)) else if 265 ≤ b ∧ b ≤ 275 then (md_t b, md_l b, v b) else h b
section MH
variable {h : mv_H} {v : mvt} {b j x : Int}
theorem mH_o (hb : b < 264 ∨ 275 < b) : mH h v b = h b := by unfold mH; rw [if_neg (by omega), if_neg (by omega)]
theorem mH_64 : mH h v 264 = (4, 16, md_c (v 264)) := rfl
theorem mH_a (h1 : 265 ≤ b) (h2 : b ≤ 275) : mH h v b = (md_t b, md_l b, v b) := by unfold mH; rw [if_neg (by omega), if_pos ⟨h1, h2⟩]
theorem mH_t64 : (mH h v 264).1 = 4 := rfl
theorem mH_r1 : (mH h v 264).2.2 1 = 265 := rfl
theorem mH_r3 : (mH h v 264).2.2 3 = 266 := rfl
theorem mH_r4 : (mH h v 264).2.2 4 = 267 := rfl
theorem mH_r5 : (mH h v 264).2.2 5 = 268 := rfl
theorem mH_r6 : (mH h v 264).2.2 6 = 269 := rfl
theorem mH_r8 : (mH h v 264).2.2 8 = 270 := rfl
theorem mH_r9 : (mH h v 264).2.2 9 = 271 := rfl
theorem mH_r10 : (mH h v 264).2.2 10 = 272 := rfl
theorem mH_r11 : (mH h v 264).2.2 11 = 273 := rfl
theorem mH_r12 : (mH h v 264).2.2 12 = 274 := rfl
theorem mH_r14 : (mH h v 264).2.2 14 = 275 := rfl
theorem mH_i0 : (mH h v 264).2.2 0 = v 264 0 := rfl
theorem mH_i2 : (mH h v 264).2.2 2 = v 264 2 := rfl
theorem mH_i7 : (mH h v 264).2.2 7 = v 264 7 := rfl
theorem mH_i13 : (mH h v 264).2.2 13 = v 264 13 := rfl
theorem mH_i15 : (mH h v 264).2.2 15 = v 264 15 := rfl
theorem mH_t (h1 : 265 ≤ b) (h2 : b ≤ 275) (h3 : b ≠ 271) : (mH h v b).1 = 10 := by rw [mH_a h1 h2]; exact if_neg h3
theorem mH_t71 : (mH h v 271).1 = 12 := rfl
theorem mH_lr (h1 : 266 ≤ b) (h2 : b ≤ 268) : (mH h v b).2.1 = 1221 := by
  rw [mH_a (by omega) (by omega)]
  show md_l b = 1221
  unfold md_l
  rw [if_neg (by omega), if_neg (by omega), if_neg (by omega), if_neg (by omega), if_neg (by omega), if_neg (by omega)]
theorem mH_l65 : (mH h v 265).2.1 = 50 := rfl
theorem mH_l69 : (mH h v 269).2.1 = 17094 := rfl
theorem mH_l70 : (mH h v 270).2.1 = 2442 := rfl
theorem mH_l71 : (mH h v 271).2.1 = 2 := rfl
theorem mH_l72 : (mH h v 272).2.1 = 24 := rfl
theorem mH_l73 : (mH h v 273).2.1 = 24 := rfl
theorem mH_l74 : (mH h v 274).2.1 = 24 := rfl
theorem mH_l75 : (mH h v 275).2.1 = 64 := rfl
theorem mH_c (h1 : 265 ≤ b) (h2 : b ≤ 275) : (mH h v b).2.2 = v b := by rw [mH_a h1 h2]
theorem md_cu {g : Int → Int} {k : Int} (hk : k ≠ 1 ∧ k ≠ 3 ∧ k ≠ 4 ∧ k ≠ 5 ∧ k ≠ 6 ∧ k ≠ 8 ∧ k ≠ 9 ∧ k ≠ 10 ∧ k ≠ 11 ∧ k ≠ 12 ∧ k ≠ 14) : mv_up (md_c g) k x = md_c (mv_up g k x) := by
  funext q
  unfold mv_up md_c
  dsimp only
  by_cases hq : q = k
  · subst hq
    rw [if_pos rfl, if_neg (by omega), if_neg (by omega), if_neg (by omega), if_neg (by omega), if_neg (by omega), if_neg (by omega), if_neg (by omega), if_neg (by omega), if_neg (by omega), if_neg (by omega), if_neg (by omega), if_pos rfl]
  · rw [if_neg hq, if_neg hq]
theorem mW_f {k : Int} (hk : k ≠ 1 ∧ k ≠ 3 ∧ k ≠ 4 ∧ k ≠ 5 ∧ k ≠ 6 ∧ k ≠ 8 ∧ k ≠ 9 ∧ k ≠ 10 ∧ k ≠ 11 ∧ k ≠ 12 ∧ k ≠ 14) : mv_uo (mH h v) 264 ((mH h v 264).1, (mH h v 264).2.1, mv_up (mH h v 264).2.2 k x) = mH h (gu v 264 (mv_up (v 264) k x)) := by
  funext b
  by_cases hb : b = 264
  · subst hb
    rw [uo_s, mH_64, mH_64, gu_s]
    dsimp only
    rw [md_cu hk]
  · rw [uo_n hb]
    unfold mH
    rw [if_neg hb, if_neg hb, gu_n hb]
theorem mW_0 : mv_uo (mH h v) 264 ((mH h v 264).1, (mH h v 264).2.1, mv_up (mH h v 264).2.2 0 x) = mH h (gu v 264 (mv_up (v 264) 0 x)) := mW_f (by omega)
theorem mW_2 : mv_uo (mH h v) 264 ((mH h v 264).1, (mH h v 264).2.1, mv_up (mH h v 264).2.2 2 x) = mH h (gu v 264 (mv_up (v 264) 2 x)) := mW_f (by omega)
theorem mW_7 : mv_uo (mH h v) 264 ((mH h v 264).1, (mH h v 264).2.1, mv_up (mH h v 264).2.2 7 x) = mH h (gu v 264 (mv_up (v 264) 7 x)) := mW_f (by omega)
theorem mW_13 : mv_uo (mH h v) 264 ((mH h v 264).1, (mH h v 264).2.1, mv_up (mH h v 264).2.2 13 x) = mH h (gu v 264 (mv_up (v 264) 13 x)) := mW_f (by omega)
theorem mW_15 : mv_uo (mH h v) 264 ((mH h v 264).1, (mH h v 264).2.1, mv_up (mH h v 264).2.2 15 x) = mH h (gu v 264 (mv_up (v 264) 15 x)) := mW_f (by omega)
theorem mW_a (h1 : 265 ≤ b) (h2 : b ≤ 275) : mv_uo (mH h v) b ((mH h v b).1, (mH h v b).2.1, mv_up (mH h v b).2.2 j x) = mH h (gu v b (mv_up (v b) j x)) := by
  funext q
  by_cases hq : q = b
  · subst hq
    rw [uo_s, mH_a h1 h2, mH_a h1 h2, gu_s]
  · rw [uo_n hq]
    by_cases hb : q = 264
    · subst hb; rw [mH_64, mH_64, gu_n (by omega)]
    · by_cases h3 : 265 ≤ q ∧ q ≤ 275
      · rw [mH_a h3.1 h3.2, mH_a h3.1 h3.2, gu_n hq]
      · rw [mH_o (by omega), mH_o (by omega)]
theorem mH_of {h' : mv_H} (hb : ∀ b : Int, 264 ≤ b → b ≤ 275 → h' b = mH h v b) : h' = mH h' v := by
  funext b
  by_cases h1 : 264 ≤ b ∧ b ≤ 275
  · rw [hb b h1.1 h1.2]
    unfold mH
    by_cases h2 : b = 264
    · rw [if_pos h2, if_pos h2]
    · rw [if_neg h2, if_neg h2, if_pos (by omega), if_pos (by omega)]
  · rw [mH_o (by omega)]
end MH
/-- line i of the row R is x -/
def Rl (R : Int → Int) (i : Int) (x : xt) : Prop := R (2 + 42 * i) = x.1 ∧ ∀ k : Int, 0 ≤ k → k < x.1 → R (2 + 42 * i + 2 + k) = x.2 k
/-- a log whose lines fit their templates -/
def gI (A : lg) : Prop := gn A ≤ 25 ∧ gT A ≤ 13 ∧ (∀ i : Int, 0 ≤ i → i < gn A → 0 ≤ gP A i ∧ gP A i < gT A ∧ xok (gL A i) ∧ gf A (gL A i) (gP A i) = true) ∧
  ∀ t : Int, 0 ≤ t → t < gT A → xok (gS A t) ∧ (∃ i : Int, 0 ≤ i ∧ i < gn A ∧ gP A i = t) ∧ ∀ p : Int, gO A t p = true → 0 ≤ p → p < 12 → p < xn (gS A t) ∧ xk (gS A t) p = 0
/-- the row R is the log A -/
def Rw (R : Int → Int) (A : lg) : Prop := R 0 = gn A ∧ R 1 = gT A ∧ (∀ i : Int, 0 ≤ i → i < gn A → Rl R i (gL A i) ∧ R (2 + 42 * i + 1) = gP A i) ∧
  ∀ t : Int, 0 ≤ t → t < gT A → R (1052 + 13 * t) = xn (gS A t) ∧ ∀ p : Int, 0 ≤ p → p < xn (gS A t) → R (1052 + 13 * t + 1 + p) = gk A t p
/-- pieces as the reference holds them: from o on, the line's text beginning at b -/
def Ct (w : mvt) (o b : Int) (P : px_T) : Prop := ∀ p : Int, 0 ≤ p → p < P.1 → w 272 (o + p) = b + P.2.2.1 p ∧ w 273 (o + p) = P.2.2.2.1 p ∧ w 274 (o + p) = P.2.1 p
/-- nothing but the pieces has changed -/
def ms (v w : mvt) : Prop := ∀ b : Int, b ≠ 272 → b ≠ 273 → b ≠ 274 → w b = v b
/-- nothing but the pieces from o to o + 11 has changed -/
def Cf (v w : mvt) (o : Int) : Prop := ms v w ∧ ∀ b q : Int, (q < o ∨ o + 12 ≤ q) → w b q = v b q
theorem ms_r (v : mvt) : ms v v := fun _ _ _ _ => rfl
theorem ms_t {u v w : mvt} (h1 : ms u v) (h2 : ms v w) : ms u w := fun b a1 a2 a3 => (h2 b a1 a2 a3).trans (h1 b a1 a2 a3)
theorem Cf_r (v : mvt) (o : Int) : Cf v v o := ⟨ms_r v, fun _ _ _ => rfl⟩
theorem Ct_fr {v w : mvt} {o o' b : Int} {P : px_T} (hc : Ct v o b P) (hf : Cf v w o') (hd : o + 12 ≤ o' ∨ o' + 12 ≤ o) (hP : P.1 ≤ 12) : Ct w o b P := fun p h0 h1 => by
  rw [hf.2 272 _ (by omega), hf.2 273 _ (by omega), hf.2 274 _ (by omega)]
  exact hc p h0 h1
section CUT
variable {w w' : mvt} {o b k c : Int} {P : px_T}
theorem cut_g (hc : Ct w o b P) (hg : px_g P (px_k c) = true) (e1 : w' 272 = w 272) (e2 : ∀ q, w' 273 q = mv_up (w 273) (o + P.1 - 1) (w 273 (o + P.1 - 1) + 1) q) (e3 : w' 274 = w 274) : Ct w' o b (px_add P c k) := by
  unfold px_add
  rw [hg]
  have hg' := hg
  unfold px_g at hg'
  simp only [Bool.and_eq_true, decide_eq_true_eq] at hg'
  intro p h0 h1
  have h1 : p < P.1 := h1
  obtain ⟨c1, c2, c3⟩ := hc p h0 h1
  show w' 272 (o + p) = b + P.2.2.1 p ∧ w' 273 (o + p) = mv_up P.2.2.2.1 (P.1 - 1) (P.2.2.2.1 (P.1 - 1) + 1) p ∧ w' 274 (o + p) = P.2.1 p
  rw [e1, e2, e3]
  refine ⟨c1, ?_, c3⟩
  by_cases hp : p = P.1 - 1
  · rw [show o + P.1 - 1 = o + p from by omega, ← hp, up_s, up_s, c2]
  · rw [up_n (by omega), up_n hp, c2]
theorem cut_n (hc : Ct w o b P) (hg : px_g P (px_k c) = false) (e1 : ∀ q, w' 272 q = mv_up (w 272) (o + P.1) (b + k) q) (e2 : ∀ q, w' 273 q = mv_up (w 273) (o + P.1) 1 q) (e3 : ∀ q, w' 274 q = mv_up (w 274) (o + P.1) (px_k c) q) : Ct w' o b (px_add P c k) := by
  unfold px_add
  rw [hg]
  intro p h0 h1
  have h1 : p < P.1 + 1 := h1
  show w' 272 (o + p) = b + mv_up P.2.2.1 P.1 k p ∧ w' 273 (o + p) = mv_up P.2.2.2.1 P.1 1 p ∧ w' 274 (o + p) = mv_up P.2.1 P.1 (px_k c) p
  rw [e1, e2, e3]
  by_cases hp : p = P.1
  · subst hp
    rw [up_s, up_s, up_s, up_s, up_s, up_s]
    exact ⟨rfl, rfl, rfl⟩
  · simp (disch := omega) only [up_n]
    exact hc p h0 (by omega)
theorem px_g1 (hg : px_g P k = true) : (P.1 = 0 → False) ∧ k ≠ 2 ∧ 0 < P.1 ∧ P.2.1 (P.1 - 1) = k := by
  unfold px_g at hg
  simp only [Bool.and_eq_true, decide_eq_true_eq] at hg
  exact ⟨by omega, hg.1.1, hg.1.2, hg.2⟩
theorem px_g0 (h1 : k = 2 ∨ P.1 ≤ 0 ∨ P.2.1 (P.1 - 1) ≠ k) : px_g P k = false := by
  unfold px_g
  rw [Bool.eq_false_iff]
  intro q
  simp only [Bool.and_eq_true, decide_eq_true_eq] at q
  omega
end CUT
theorem px_n1 (P : px_T) (c k : Int) : (px_add P c k).1 = if px_g P (px_k c) = true then P.1 else P.1 + 1 := by
  unfold px_add
  cases px_g P (px_k c) <;> rfl
theorem px_mono {f : Int → Int} : ∀ {n m : Nat}, n ≤ m → (px f n).1 ≤ (px f m).1
  | n, 0, h => by rw [show n = 0 from by omega]; exact Int.le_refl _
  | n, m + 1, h => by
    by_cases hm : n = m + 1
    · rw [hm]; exact Int.le_refl _
    · have h1 := px_mono (f := f) (n := n) (m := m) (by omega)
      show (px f n).1 ≤ (px_add (px f m) (f m) m).1
      rw [px_n1]
      split <;> omega
/-- the last piece ends where the text ends; values are those of the digits -/
def px_vv (f : Int → Int) (s : Int) : Nat → Int
  | 0 => 0
  | k + 1 => 10 * px_vv f s k + f (s + k) - 48
theorem px_ends {f : Int → Int} : ∀ {n : Nat}, px_ok f n → (0 < (px f n).1 → (px f n).2.2.1 ((px f n).1 - 1) + (px f n).2.2.2.1 ((px f n).1 - 1) = n) ∧ ∀ p : Int, 0 ≤ p → p < (px f n).1 → (px f n).2.1 p = 3 → (px f n).2.2.2.2 p = px_vv f ((px f n).2.2.1 p) ((px f n).2.2.2.1 p).toNat
  | 0, _ => ⟨fun h => absurd h (by show ¬ (0 : Int) < 0; omega), fun p h0 h1 => absurd h1 (by show ¬ p < 0; omega)⟩
  | n + 1, h => by
    have h' : px_ok f n := fun i hi => h i (by omega)
    obtain ⟨g1, g2⟩ := px_ends h'
    obtain ⟨i1, i2, i3, i4, i5⟩ := px_okI h'
    show (0 < (px_add (px f n) (f n) n).1 → (px_add (px f n) (f n) n).2.2.1 ((px_add (px f n) (f n) n).1 - 1) + (px_add (px f n) (f n) n).2.2.2.1 ((px_add (px f n) (f n) n).1 - 1) = ((n + 1 : Nat) : Int)) ∧ ∀ p : Int, 0 ≤ p → p < (px_add (px f n) (f n) n).1 → (px_add (px f n) (f n) n).2.1 p = 3 → (px_add (px f n) (f n) n).2.2.2.2 p = px_vv f ((px_add (px f n) (f n) n).2.2.1 p) ((px_add (px f n) (f n) n).2.2.2.1 p).toNat
    generalize hP : px f n = P at g1 g2 i1 i2 i3 i5
    show (0 < (px_add P (f n) n).1 → (px_add P (f n) n).2.2.1 ((px_add P (f n) n).1 - 1) + (px_add P (f n) n).2.2.2.1 ((px_add P (f n) n).1 - 1) = ((n + 1 : Nat) : Int)) ∧ ∀ p : Int, 0 ≤ p → p < (px_add P (f n) n).1 → (px_add P (f n) n).2.1 p = 3 → (px_add P (f n) n).2.2.2.2 p = px_vv f ((px_add P (f n) n).2.2.1 p) ((px_add P (f n) n).2.2.2.1 p).toNat
    unfold px_add
    cases hg : px_g P (px_k (f n)) with
    | true =>
      obtain ⟨-, -, q1, q2⟩ := px_g1 hg
      have g1 := g1 q1
      refine ⟨fun _ => ?_, fun p h0 h1 => ?_⟩
      · show P.2.2.1 (P.1 - 1) + mv_up P.2.2.2.1 (P.1 - 1) (P.2.2.2.1 (P.1 - 1) + 1) (P.1 - 1) = _
        rw [up_s]; omega
      · have h1 : p < P.1 := h1
        show P.2.1 p = 3 → mv_up P.2.2.2.2 (P.1 - 1) (if px_k (f n) = 3 then P.2.2.2.2 (P.1 - 1) * 10 + (f n - 48) else P.2.2.2.2 (P.1 - 1)) p = px_vv f (P.2.2.1 p) (mv_up P.2.2.2.1 (P.1 - 1) (P.2.2.2.1 (P.1 - 1) + 1) p).toNat
        intro h3
        by_cases hp : p = P.1 - 1
        · subst hp
          have j1 := i5 (P.1 - 1) (by omega) (by omega)
          rw [up_s, up_s, if_pos (q2.symm.trans h3), g2 _ h0 h1 h3, show (P.2.2.2.1 (P.1 - 1) + 1).toNat = (P.2.2.2.1 (P.1 - 1)).toNat + 1 from by omega]
          show _ = 10 * px_vv f (P.2.2.1 (P.1 - 1)) (P.2.2.2.1 (P.1 - 1)).toNat + f (P.2.2.1 (P.1 - 1) + ((P.2.2.2.1 (P.1 - 1)).toNat : Nat)) - 48
          rw [show P.2.2.1 (P.1 - 1) + ((P.2.2.2.1 (P.1 - 1)).toNat : Nat) = (n : Int) from by omega]
          omega
        · rw [up_n hp, up_n hp]; exact g2 p h0 h1 h3
    | false =>
      refine ⟨fun _ => ?_, fun p h0 h1 => ?_⟩
      · show mv_up P.2.2.1 P.1 n (P.1 + 1 - 1) + mv_up P.2.2.2.1 P.1 1 (P.1 + 1 - 1) = _
        rw [show P.1 + 1 - 1 = P.1 from by omega, up_s, up_s]; omega
      · have h1 : p < P.1 + 1 := h1
        show mv_up P.2.1 P.1 (px_k (f n)) p = 3 → mv_up P.2.2.2.2 P.1 (if px_k (f n) = 3 then f n - 48 else 0) p = px_vv f (mv_up P.2.2.1 P.1 n p) (mv_up P.2.2.2.1 P.1 1 p).toNat
        by_cases hp : p = P.1
        · subst hp
          rw [up_s, up_s, up_s, up_s]
          intro h3
          rw [if_pos h3]
          show _ = 10 * 0 + f ((n : Int) + (0 : Nat)) - 48
          rw [show (n : Int) + (0 : Nat) = n from by omega]
          omega
        · rw [up_n hp, up_n hp, up_n hp, up_n hp]; exact g2 p h0 (by omega)
section LX
variable {x y : xt} {p q : Int}
theorem xk_p (h0 : 0 ≤ p) (h1 : p < xn x) : xk x p = (px x.2 x.1).2.1 p := if_pos ⟨h0, h1⟩
theorem xz_p (h0 : 0 ≤ p) (h1 : p < xn x) : xz x p = (px x.2 x.1).2.2.2.1 p := if_pos ⟨h0, h1⟩
theorem xs_p (h0 : 0 ≤ p) (h1 : p < xn x) : xs x p = (px x.2 x.1).2.2.1 p := if_pos ⟨h0, h1⟩
theorem xk_o (h : ¬ (0 ≤ p ∧ p < xn x)) : xk x p = -1 := if_neg h
theorem xv_d (hx : xok x) (h3 : xk x p = 3) : xv x p = px_vv x.2 (xs x p) (xz x p).toNat := by
  by_cases h : 0 ≤ p ∧ p < xn x
  · rw [xs_p h.1 h.2, xz_p h.1 h.2, ← (px_ends hx).2 p h.1 h.2 (by rw [← xk_p h.1 h.2]; exact h3)]
    exact if_pos ⟨h.1, h.2, by rw [← xk_p h.1 h.2]; exact h3⟩
  · rw [xk_o h] at h3; exact absurd h3 (by decide)
theorem xv_n (h3 : xk x p ≠ 3) : xv x p = -9999 := by
  unfold xv px_vl
  rw [if_neg]
  intro h
  exact h3 ((if_pos ⟨h.1, h.2.1⟩ : xk x p = _).trans h.2.2)
theorem xv_b3 (hx : xok x) (h3 : xk x p = 3) : 0 ≤ xv x p ∧ xv x p ≤ 999999 := by
  by_cases h : 0 ≤ p ∧ p < xn x
  · have hk : (px x.2 x.1).2.1 p = 3 := by rw [← xk_p h.1 h.2]; exact h3
    have e : xv x p = (px x.2 x.1).2.2.2.2 p := if_pos ⟨h.1, h.2, hk⟩
    have i := (px_okI hx).2.2.2.2 p h.1 h.2
    rw [e]; omega
  · rw [xk_o h] at h3; exact absurd h3 (by decide)
/-- the pieces of x -/
theorem Ct_x {w : mvt} {o b : Int} (hc : Ct w o b (px x.2 x.1)) (h0 : 0 ≤ p) (h1 : p < xn x) : w 272 (o + p) = b + xs x p ∧ w 273 (o + p) = xz x p ∧ w 274 (o + p) = xk x p := by
  rw [xk_p h0 h1, xs_p h0 h1, xz_p h0 h1]
  exact hc p h0 h1
theorem xp_b (hx : xok x) (h0 : 0 ≤ p) (h1 : p < xn x) : 0 ≤ xk x p ∧ xk x p ≤ 3 ∧ 0 ≤ xs x p ∧ 1 ≤ xz x p ∧ xs x p + xz x p ≤ x.1 ∧ x.1 ≤ 40 ∧ (xk x p = 3 → xz x p ≤ 6) := by
  have i := px_okI hx
  have j := i.2.2.2.2 p h0 h1
  rw [xk_p h0 h1, xs_p h0 h1, xz_p h0 h1]
  exact ⟨j.1, j.2.1, j.2.2.1, j.2.2.2.1, j.2.2.2.2.1, i.2.2.2.1, j.2.2.2.2.2.1⟩
theorem xw_p (h0 : 0 ≤ p) (h1 : p < xn x) (h2 : 0 ≤ q) (h3 : q < xn y) : xw x p y q = (decide (xz x p = xz y q) && px_e x.2 y.2 (xs x p) (xs y q) (xz x p).toNat) := by
  rw [xs_p h0 h1, xs_p h2 h3, xz_p h0 h1, xz_p h2 h3]
  have h1' : p < (px x.2 x.1).1 := h1
  have h3' : q < (px y.2 y.1).1 := h3
  unfold xw px_w
  rw [decide_eq_true h0, decide_eq_true h1', decide_eq_true h2, decide_eq_true h3']
  rfl
end LX
theorem cL_b (x z : Int) : (mv_cL x z < 0 ↔ x < z) ∧ (0 < mv_cL x z ↔ z < x) ∧ -1 ≤ mv_cL x z ∧ mv_cL x z ≤ 1 := by
  unfold mv_cL
  split
  · omega
  · split <;> omega
