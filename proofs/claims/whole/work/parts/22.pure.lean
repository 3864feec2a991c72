/-! texts and their pieces, as numbers and functions -/
/-- pieces: how many; kinds, starts, sizes, values -/
abbrev px_T : Type := Int × (Int → Int) × (Int → Int) × (Int → Int) × (Int → Int)
def px_k (c : Int) : Int := if 97 ≤ c ∧ c ≤ 122 then 0 else if 48 ≤ c ∧ c ≤ 57 then 3 else if c = 32 then 1 else if c = 58 ∨ c = 61 then 2 else -1
/-- whether a character of kind k makes the last piece longer -/
def px_g (P : px_T) (k : Int) : Bool := decide (k ≠ 2) && decide (0 < P.1) && decide (P.2.1 (P.1 - 1) = k)
def px_add (P : px_T) (c i : Int) : px_T := bif px_g P (px_k c) then
    (P.1, P.2.1, P.2.2.1, mv_up P.2.2.2.1 (P.1 - 1) (P.2.2.2.1 (P.1 - 1) + 1), mv_up P.2.2.2.2 (P.1 - 1) (if px_k c = 3 then P.2.2.2.2 (P.1 - 1) * 10 + (c - 48) else P.2.2.2.2 (P.1 - 1)))
  else (P.1 + 1, mv_up P.2.1 P.1 (px_k c), mv_up P.2.2.1 P.1 i, mv_up P.2.2.2.1 P.1 1, mv_up P.2.2.2.2 P.1 (if px_k c = 3 then c - 48 else 0))
def px (f : Int → Int) : Nat → px_T
  | 0 => (0, fun _ => 0, fun _ => 0, fun _ => 0, fun _ => 0)
  | n + 1 => px_add (px f n) (f n) n
/-- whether a line of n characters with the pieces P may go on with the character c -/
def px_a (P : px_T) (n : Nat) (c : Int) : Prop := px_k c ≠ -1 ∧ n < 40 ∧ (px_g P (px_k c) = false → P.1 < 12) ∧ (px_g P (px_k c) = true → px_k c = 3 → P.2.2.2.1 (P.1 - 1) < 6)
/-- a text is a line (but for being empty) -/
def px_ok (f : Int → Int) (n : Nat) : Prop := ∀ i : Nat, i < n → px_a (px f i) i (f i)
/-- what holds of the pieces of a good text -/
def px_I (P : px_T) (n : Nat) : Prop := 0 ≤ P.1 ∧ P.1 ≤ 12 ∧ P.1 ≤ n ∧ n ≤ 40 ∧ ∀ p : Int, 0 ≤ p → p < P.1 →
  0 ≤ P.2.1 p ∧ P.2.1 p ≤ 3 ∧ 0 ≤ P.2.2.1 p ∧ 1 ≤ P.2.2.2.1 p ∧ P.2.2.1 p + P.2.2.2.1 p ≤ n ∧ (P.2.1 p = 3 → P.2.2.2.1 p ≤ 6) ∧ 0 ≤ P.2.2.2.2 p ∧ P.2.2.2.2 p < 10 ^ (P.2.2.2.1 p).toNat ∧ P.2.2.2.2 p ≤ 999999 ∧ (P.2.1 p ≠ 3 → P.2.2.2.2 p = 0)
theorem up_s {f : Int → Int} {i x : Int} : mv_up f i x i = x := if_pos rfl
theorem up_n {f : Int → Int} {i x j : Int} (h : j ≠ i) : mv_up f i x j = f j := if_neg h
theorem px_kb (c : Int) : (px_k c = -1 ∨ (0 ≤ px_k c ∧ px_k c ≤ 3)) ∧ (px_k c = 3 → 48 ≤ c ∧ c ≤ 57) ∧ (px_k c ≠ -1 → 32 ≤ c ∧ c ≤ 122) := by
  unfold px_k
  (repeat' split) <;> omega
theorem px_tp {k : Nat} {v : Int} (h : v < 10 ^ k) (hk : k ≤ 6) : v ≤ 999999 := by
  have h1 : (10 : Int) ^ k ≤ 10 ^ 6 := by
    have h0 : ((10 ^ k : Nat) : Int) ≤ ((10 ^ 6 : Nat) : Int) := Int.ofNat_le.mpr (Nat.pow_le_pow_right (by decide) hk)
    rw [Int.natCast_pow, Int.natCast_pow] at h0
    exact h0
  have h2 : (10 : Int) ^ 6 = 1000000 := rfl
  omega
theorem px_addI {P : px_T} {n : Nat} {c : Int} (hI : px_I P n) (ha : px_a P n c) : px_I (px_add P c n) (n + 1) := by
  obtain ⟨i1, i2, i3, i4, i5⟩ := hI
  obtain ⟨a1, a2, a3, a4⟩ := ha
  obtain ⟨k1, k2, k3⟩ := px_kb c
  unfold px_add
  cases hg : px_g P (px_k c) with
  | true =>
    have a4 := a4 hg
    have hg' := hg
    unfold px_g at hg'
    simp only [Bool.and_eq_true, decide_eq_true_eq] at hg'
    obtain ⟨⟨g1, g2⟩, g3⟩ := hg'
    refine ⟨i1, i2, by show P.1 ≤ ((n + 1 : Nat) : Int); omega, by omega, fun p h0 h1 => ?_⟩
    have h1 : p < P.1 := h1
    show 0 ≤ P.2.1 p ∧ P.2.1 p ≤ 3 ∧ 0 ≤ P.2.2.1 p ∧ 1 ≤ mv_up P.2.2.2.1 (P.1 - 1) (P.2.2.2.1 (P.1 - 1) + 1) p ∧ P.2.2.1 p + mv_up P.2.2.2.1 (P.1 - 1) (P.2.2.2.1 (P.1 - 1) + 1) p ≤ ((n + 1 : Nat) : Int) ∧ (P.2.1 p = 3 → mv_up P.2.2.2.1 (P.1 - 1) (P.2.2.2.1 (P.1 - 1) + 1) p ≤ 6) ∧ 0 ≤ mv_up P.2.2.2.2 (P.1 - 1) (if px_k c = 3 then P.2.2.2.2 (P.1 - 1) * 10 + (c - 48) else P.2.2.2.2 (P.1 - 1)) p ∧ mv_up P.2.2.2.2 (P.1 - 1) (if px_k c = 3 then P.2.2.2.2 (P.1 - 1) * 10 + (c - 48) else P.2.2.2.2 (P.1 - 1)) p < 10 ^ (mv_up P.2.2.2.1 (P.1 - 1) (P.2.2.2.1 (P.1 - 1) + 1) p).toNat ∧ mv_up P.2.2.2.2 (P.1 - 1) (if px_k c = 3 then P.2.2.2.2 (P.1 - 1) * 10 + (c - 48) else P.2.2.2.2 (P.1 - 1)) p ≤ 999999 ∧ (P.2.1 p ≠ 3 → mv_up P.2.2.2.2 (P.1 - 1) (if px_k c = 3 then P.2.2.2.2 (P.1 - 1) * 10 + (c - 48) else P.2.2.2.2 (P.1 - 1)) p = 0)
    obtain ⟨j1, j2, j3, j4, j5, j6, j7, j8, j9, j10⟩ := i5 p h0 h1
    by_cases hp : p = P.1 - 1
    · subst hp
      rw [up_s, up_s]
      have ht : (P.2.2.2.1 (P.1 - 1) + 1).toNat = (P.2.2.2.1 (P.1 - 1)).toNat + 1 := by omega
      rw [ht, Int.pow_succ]
      generalize hw : (10 : Int) ^ (P.2.2.2.1 (P.1 - 1)).toNat = w at j8 ⊢
      by_cases h3 : px_k c = 3
      · rw [if_pos h3]
        have a4 := a4 h3
        have k2 := k2 h3
        have hv : P.2.2.2.2 (P.1 - 1) * 10 + (c - 48) < w * 10 := by omega
        have hle : P.2.2.2.2 (P.1 - 1) * 10 + (c - 48) ≤ 999999 := px_tp (k := (P.2.2.2.1 (P.1 - 1)).toNat + 1) (by rw [Int.pow_succ, hw]; exact hv) (by omega)
        exact ⟨j1, j2, j3, by omega, by omega, fun _ => by omega, by omega, hv, hle, fun h9 => absurd (g3.trans h3) h9⟩
      · rw [if_neg h3]
        have h33 : P.2.1 (P.1 - 1) ≠ 3 := by rw [g3]; exact h3
        exact ⟨j1, j2, j3, by omega, by omega, fun h9 => absurd h9 h33, j7, by omega, j9, j10⟩
    · rw [up_n hp, up_n hp]
      exact ⟨j1, j2, j3, j4, by omega, j6, j7, j8, j9, j10⟩
  | false =>
    have a3 := a3 hg
    refine ⟨by show 0 ≤ P.1 + 1; omega, by show P.1 + 1 ≤ 12; omega, by show P.1 + 1 ≤ ((n + 1 : Nat) : Int); omega, by omega, fun p h0 h1 => ?_⟩
    have h1 : p < P.1 + 1 := h1
    show 0 ≤ mv_up P.2.1 P.1 (px_k c) p ∧ mv_up P.2.1 P.1 (px_k c) p ≤ 3 ∧ 0 ≤ mv_up P.2.2.1 P.1 n p ∧ 1 ≤ mv_up P.2.2.2.1 P.1 1 p ∧ mv_up P.2.2.1 P.1 n p + mv_up P.2.2.2.1 P.1 1 p ≤ ((n + 1 : Nat) : Int) ∧ (mv_up P.2.1 P.1 (px_k c) p = 3 → mv_up P.2.2.2.1 P.1 1 p ≤ 6) ∧ 0 ≤ mv_up P.2.2.2.2 P.1 (if px_k c = 3 then c - 48 else 0) p ∧ mv_up P.2.2.2.2 P.1 (if px_k c = 3 then c - 48 else 0) p < 10 ^ (mv_up P.2.2.2.1 P.1 1 p).toNat ∧ mv_up P.2.2.2.2 P.1 (if px_k c = 3 then c - 48 else 0) p ≤ 999999 ∧ (mv_up P.2.1 P.1 (px_k c) p ≠ 3 → mv_up P.2.2.2.2 P.1 (if px_k c = 3 then c - 48 else 0) p = 0)
    by_cases hp : p = P.1
    · subst hp
      rw [up_s, up_s, up_s, up_s]
      have h10 : (10 : Int) ^ (1 : Int).toNat = 10 := rfl
      rw [h10]
      by_cases h3 : px_k c = 3
      · rw [if_pos h3]
        have k2 := k2 h3
        exact ⟨by omega, by omega, by omega, by omega, by omega, fun _ => by omega, by omega, by omega, by omega, fun h9 => absurd h3 h9⟩
      · rw [if_neg h3]
        exact ⟨by omega, by omega, by omega, by omega, by omega, fun _ => by omega, by omega, by omega, by omega, fun _ => rfl⟩
    · rw [up_n hp, up_n hp, up_n hp, up_n hp]
      obtain ⟨j1, j2, j3, j4, j5, j6, j7, j8, j9, j10⟩ := i5 p h0 (by omega)
      exact ⟨j1, j2, j3, j4, by omega, j6, j7, j8, j9, j10⟩
theorem px_okI {f : Int → Int} : ∀ {n : Nat}, px_ok f n → px_I (px f n) n
  | 0, _ => ⟨Int.le_refl _, by show (0 : Int) ≤ 12; decide, Int.le_refl _, Nat.zero_le _, fun p h0 h1 => by have h1 : p < 0 := h1; omega⟩
  | n + 1, h => px_addI (px_okI (fun i hi => h i (Nat.lt_succ_of_lt hi))) (h n (Nat.lt_succ_self n))
theorem px_ext {f g : Int → Int} : ∀ {n : Nat}, (∀ i : Nat, i < n → f i = g i) → px f n = px g n
  | 0, _ => rfl
  | n + 1, h => by
    unfold px
    rw [px_ext (fun i hi => h i (Nat.lt_succ_of_lt hi)), h n (Nat.lt_succ_self n)]
/-- a line object, its arrays in their places -/
def LnW (h : mv_H) (l : Int) : Prop := 0 ≤ l ∧ (h l).1 = 1 ∧ (h l).2.2 0 = l + 1 ∧ (h l).2.2 1 = l + 2 ∧ (h l).2.2 2 = l + 3 ∧ (h l).2.2 3 = l + 4 ∧ (h l).2.2 4 = l + 5 ∧
  ((h (l + 1)).1 = 11 ∧ (h (l + 1)).2.1 = 40) ∧ ((h (l + 2)).1 = 10 ∧ (h (l + 2)).2.1 = 12) ∧ ((h (l + 3)).1 = 10 ∧ (h (l + 3)).2.1 = 12) ∧ ((h (l + 4)).1 = 10 ∧ (h (l + 4)).2.1 = 12) ∧ ((h (l + 5)).1 = 10 ∧ (h (l + 5)).2.1 = 12)
/-- .. that holds the good text f of n characters -/
def LnA (h : mv_H) (l : Int) (n : Nat) (f : Int → Int) : Prop := LnW h l ∧ (h l).2.2 5 = n ∧ (h l).2.2 6 = (px f n).1 ∧ px_ok f n ∧ (∀ k : Int, 0 ≤ k → k < n → (h (l + 1)).2.2 k = f k) ∧
  ∀ p : Int, 0 ≤ p → p < (px f n).1 → (h (l + 2)).2.2 p = (px f n).2.1 p ∧ (h (l + 3)).2.2 p = (px f n).2.2.1 p ∧ (h (l + 4)).2.2 p = (px f n).2.2.2.1 p ∧ (h (l + 5)).2.2 p = (px f n).2.2.2.2 p
theorem LnA.I {h : mv_H} {l : Int} {n : Nat} {f : Int → Int} (hl : LnA h l n f) : px_I (px f n) n := px_okI hl.2.2.2.1
theorem LnA.kept {h h' : mv_H} {l : Int} {n : Nat} {f : Int → Int} (hl : LnA h l n f) (hk : ∀ b : Int, l ≤ b → b ≤ l + 5 → h' b = h b) : LnA h' l n f := by
  unfold LnA LnW at *
  rw [hk l (by omega) (by omega), hk (l + 1) (by omega) (by omega), hk (l + 2) (by omega) (by omega), hk (l + 3) (by omega) (by omega), hk (l + 4) (by omega) (by omega), hk (l + 5) (by omega) (by omega)]
  exact hl
/-- readers of pieces -/
def px_kd (P : px_T) (p : Int) : Int := if 0 ≤ p ∧ p < P.1 then P.2.1 p else -1
def px_sz (P : px_T) (p : Int) : Int := if 0 ≤ p ∧ p < P.1 then P.2.2.2.1 p else 0
def px_st (P : px_T) (n : Nat) (p : Int) : Int := if 0 ≤ p ∧ p < P.1 then P.2.2.1 p else n
def px_vl (P : px_T) (p : Int) : Int := if 0 ≤ p ∧ p < P.1 ∧ P.2.1 p = 3 then P.2.2.2.2 p else -9999
def px_ch (n : Nat) (f : Int → Int) (k : Int) : Int := if 0 ≤ k ∧ k < n then f k else -9999
/-- truth values as the machine has them -/
def mv_bo (b : Bool) : Int := if b = true then 1 else 0
theorem bo_0 {b : Bool} : (mv_bo b = 0) = (b = false) := by cases b <;> simp [mv_bo]
theorem bo_n {b : Bool} : (¬ mv_bo b = 0) = (b = true) := by cases b <;> simp [mv_bo]
theorem bo_i (b : Bool) : mv_i (mv_bo b) := by cases b <;> exact ⟨by decide, by decide⟩
theorem bo_t {b : Bool} (h : b = true) : mv_bo b = 1 := by rw [h]; rfl
theorem bo_f {b : Bool} (h : b = false) : mv_bo b = 0 := by rw [h]; rfl
theorem uo_s {h : mv_H} {a : Int} {o : mv_O} : mv_uo h a o a = o := if_pos rfl
theorem uo_n {h : mv_H} {a b : Int} {o : mv_O} (hb : b ≠ a) : mv_uo h a o b = h b := if_neg hb
theorem px_kd_b {P : px_T} {n : Nat} (hI : px_I P n) (p : Int) : -1 ≤ px_kd P p ∧ px_kd P p ≤ 3 := by
  unfold px_kd
  split
  · have := hI.2.2.2.2 p (by omega) (by omega); omega
  · omega
theorem px_sz_b {P : px_T} {n : Nat} (hI : px_I P n) (p : Int) : 0 ≤ px_sz P p ∧ px_sz P p ≤ n := by
  unfold px_sz
  split
  · have := hI.2.2.2.2 p (by omega) (by omega); omega
  · omega
theorem px_st_b {P : px_T} {n : Nat} (hI : px_I P n) (p : Int) : 0 ≤ px_st P n p ∧ px_st P n p ≤ n := by
  unfold px_st
  split
  · have := hI.2.2.2.2 p (by omega) (by omega); omega
  · omega
theorem px_vl_b {P : px_T} {n : Nat} (hI : px_I P n) (p : Int) : -9999 ≤ px_vl P p ∧ px_vl P p ≤ 999999 := by
  unfold px_vl
  split
  · have := hI.2.2.2.2 p (by omega) (by omega); omega
  · omega
theorem px_kd_i {P : px_T} {n : Nat} (hI : px_I P n) (p : Int) : mv_i (px_kd P p) := by
  have := px_kd_b hI p; exact ⟨by omega, by omega⟩
theorem px_sz_i {P : px_T} {n : Nat} (hI : px_I P n) (p : Int) : mv_i (px_sz P p) := by
  have := px_sz_b hI p; have := hI.2.2.2.1; exact ⟨by omega, by omega⟩
theorem px_vl_i {P : px_T} {n : Nat} (hI : px_I P n) (p : Int) : mv_i (px_vl P p) := by
  have := px_vl_b hI p; exact ⟨by omega, by omega⟩
