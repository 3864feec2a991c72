/-! the reference: the next line (written by wip/whole/m54.py) -/
theorem lsum_le {f g : Int → Int} : ∀ {n : Nat}, (∀ i : Nat, i < n → f i ≤ g i) → lsum f n ≤ lsum g n
  | 0, _ => Int.le_refl _
  | n + 1, h => by
    have h1 := lsum_le (f := f) (g := g) (n := n) (fun i hi => h i (by omega))
    have h2 := h n (by omega)
    show lsum f n + f n ≤ lsum g n + g n
    omega
theorem lsum_1 {g : Int → Int} : ∀ n : Nat, lsum (fun p => g p + 1) n = lsum g n + n
  | 0 => rfl
  | n + 1 => by
    have h1 := lsum_1 (g := g) n
    show lsum (fun p => g p + 1) n + (g n + 1) = lsum g n + g n + ((n + 1 : Nat) : Int)
    omega
theorem lsum_mo {f : Int → Int} (h : ∀ i : Nat, 0 ≤ f i) : ∀ {k n : Nat}, k ≤ n → lsum f k ≤ lsum f n
  | k, 0, hk => by rw [show k = 0 from by omega]; exact Int.le_refl _
  | k, n + 1, hk => by
    by_cases e : k = n + 1
    · rw [e]; exact Int.le_refl _
    · have h1 := lsum_mo h (k := k) (n := n) (by omega)
      have h2 := h n
      show lsum f k ≤ lsum f n + f n
      omega
theorem px_sum {f : Int → Int} : ∀ {n : Nat}, px_ok f n → lsum (px f n).2.2.2.1 (px f n).1.toNat = n
  | 0, _ => rfl
  | n + 1, h => by
    have h' : px_ok f n := fun i hi => h i (by omega)
    have g := px_sum h'
    have hI := px_okI h'
    show lsum (px_add (px f n) (f n) n).2.2.2.1 (px_add (px f n) (f n) n).1.toNat = ((n + 1 : Nat) : Int)
    generalize px f n = P at g hI
    obtain ⟨i1, i2, i3, i4, i5⟩ := hI
    unfold px_add
    cases hg : px_g P (px_k (f n)) with
    | true =>
      obtain ⟨-, -, q1, q2⟩ := px_g1 hg
      show lsum (mv_up P.2.2.2.1 (P.1 - 1) (P.2.2.2.1 (P.1 - 1) + 1)) P.1.toNat = _
      obtain ⟨k, hk⟩ : ∃ k : Nat, P.1.toNat = k + 1 := ⟨P.1.toNat - 1, by omega⟩
      rw [hk] at g ⊢
      have e1 : lsum (mv_up P.2.2.2.1 (P.1 - 1) (P.2.2.2.1 (P.1 - 1) + 1)) k = lsum P.2.2.2.1 k := lsum_ext (fun i hi => up_n (by omega))
      have g : lsum P.2.2.2.1 k + P.2.2.2.1 k = n := g
      show lsum (mv_up P.2.2.2.1 (P.1 - 1) (P.2.2.2.1 (P.1 - 1) + 1)) k + mv_up P.2.2.2.1 (P.1 - 1) (P.2.2.2.1 (P.1 - 1) + 1) k = _
      rw [e1, show (k : Int) = P.1 - 1 from by omega, up_s]
      rw [show (k : Int) = P.1 - 1 from by omega] at g
      omega
    | false =>
      show lsum (mv_up P.2.2.2.1 P.1 1) (P.1 + 1).toNat = _
      rw [show (P.1 + 1).toNat = P.1.toNat + 1 from by omega]
      have e1 : lsum (mv_up P.2.2.2.1 P.1 1) P.1.toNat = lsum P.2.2.2.1 P.1.toNat := lsum_ext (fun i hi => up_n (by omega))
      show lsum (mv_up P.2.2.2.1 P.1 1) P.1.toNat + mv_up P.2.2.2.1 P.1 1 (P.1.toNat : Int) = _
      rw [e1, g, show (P.1.toNat : Int) = P.1 from by omega, up_s]; rfl
theorem xz_sum {x : xt} (hx : xok x) : lsum (fun p => xz x p) (xn x).toNat = x.1 := by
  rw [← px_sum hx]
  exact lsum_ext (fun i hi => xz_p (by omega) (by show (i : Int) < (px x.2 x.1).1; have : xn x = (px x.2 x.1).1 := rfl; omega))
theorem xv_lt {x : xt} {p : Int} (hx : xok x) (h0 : 0 ≤ p) (h1 : p < xn x) (h3 : xk x p = 3) : xv x p < 10 ^ (xz x p).toNat := by
  have hk : (px x.2 x.1).2.1 p = 3 := by rw [← xk_p h0 h1]; exact h3
  have e : xv x p = (px x.2 x.1).2.2.2.2 p := if_pos ⟨h0, h1, hk⟩
  have i := (px_okI hx).2.2.2.2 p h0 h1
  rw [e, xz_p h0 h1]; exact i.2.2.2.2.2.2.2.1
theorem px_dg_le {v : Int} {k : Nat} (hk : px_10 v k ≤ 0) : ∀ (m d : Nat), d ≤ k → px_dg v m d ≤ k
  | 0, d, h => h
  | m + 1, d, h => by
    show (if px_10 v d ≤ 0 then d else px_dg v m (d + 1)) ≤ k
    split
    · exact h
    · rename_i h9
      by_cases e : d = k
      · subst e; exact absurd hk h9
      · exact px_dg_le hk m (d + 1) (by omega)
theorem dgn_le {v : Int} {k : Nat} (h0 : 0 ≤ v) (h1 : v < 10 ^ k) (hk : 1 ≤ k) : dgn v ≤ k := by
  have h : px_10 v k ≤ 0 := by rw [px_10e h0, Int.ediv_eq_zero_of_lt h0 h1]; exact Int.le_refl _
  have := px_dg_le h 9 1 hk
  show ((px_dg v 9 1 : Nat) : Int) ≤ k
  omega
/-- the value as the reference writes it -/
def ext6 (b : Int) : Int := if 0 ≤ b then b.tmod 1000000 else 0
theorem dgc_6 {e : Int} (h0 : 1000000 ≤ e) (h1 : e < 2000000) {b : Int} (b0 : 0 ≤ b) (b1 : b ≤ 5) : dgc (e - 1000000) b = dgc e b := by
  unfold dgc
  rw [px_10e (by omega), px_10e (by omega)]
  have hb : b.toNat = 0 ∨ b.toNat = 1 ∨ b.toNat = 2 ∨ b.toNat = 3 ∨ b.toNat = 4 ∨ b.toNat = 5 := by omega
  rcases hb with h | h | h | h | h | h <;> rw [h]
  · rw [show (10 : Int) ^ 0 = 1 from rfl, Int.tmod_eq_emod_of_nonneg (by omega), Int.tmod_eq_emod_of_nonneg (by omega)]; omega
  · rw [show (10 : Int) ^ 1 = 10 from rfl, Int.tmod_eq_emod_of_nonneg (by omega), Int.tmod_eq_emod_of_nonneg (by omega)]; omega
  · rw [show (10 : Int) ^ 2 = 100 from rfl, Int.tmod_eq_emod_of_nonneg (by omega), Int.tmod_eq_emod_of_nonneg (by omega)]; omega
  · rw [show (10 : Int) ^ 3 = 1000 from rfl, Int.tmod_eq_emod_of_nonneg (by omega), Int.tmod_eq_emod_of_nonneg (by omega)]; omega
  · rw [show (10 : Int) ^ 4 = 10000 from rfl, Int.tmod_eq_emod_of_nonneg (by omega), Int.tmod_eq_emod_of_nonneg (by omega)]; omega
  · rw [show (10 : Int) ^ 5 = 100000 from rfl, Int.tmod_eq_emod_of_nonneg (by omega), Int.tmod_eq_emod_of_nonneg (by omega)]; omega
theorem nx_T {A : lg} {l p : Int} (hx : xok (gl A l)) (h0 : 0 ≤ p) (h1 : p < xn (gl A l)) (h3 : xk (gl A l) p = 3) (hb : vb A l p ≤ 2 * xv (gl A l) p) :
    0 ≤ ext6 (vb A l p) ∧ ext6 (vb A l p) < 1000000 ∧ (if dgn (ext6 (vb A l p)) ≤ xz (gl A l) p then xz (gl A l) p else dgn (ext6 (vb A l p))) = ezs A l p ∧ (∀ b : Int, 0 ≤ b → b < ezs A l p → dgc (ext6 (vb A l p)) b = dgc (exv A l p) b) ∧ ezs A l p ≤ xz (gl A l) p + 1 ∧ 1 ≤ ezs A l p ∧ ezs A l p ≤ 6 := by
  have hz := xp_b hx h0 h1
  have hv := xv_b3 hx h3
  have hl := xv_lt hx h0 h1 h3
  have e0 : 0 ≤ exv A l p ∧ exv A l p ≤ 2 * xv (gl A l) p ∧ (0 < vb A l p → exv A l p = vb A l p) ∧ (vb A l p ≤ 0 → exv A l p = 0) := by unfold exv; split <;> omega
  have hE : ezs A l p = (if 6 ≤ (if xz (gl A l) p < dgn (exv A l p) then dgn (exv A l p) else xz (gl A l) p) then 6 else (if xz (gl A l) p < dgn (exv A l p) then dgn (exv A l p) else xz (gl A l) p)) := if_pos h3
  have hd1 := dgn_b (exv A l p)
  have hT : (exv A l p < 1000000 → ext6 (vb A l p) = exv A l p) ∧ (1000000 ≤ exv A l p → ext6 (vb A l p) = exv A l p - 1000000) := by
    unfold ext6
    by_cases hb0 : 0 ≤ vb A l p
    · rw [if_pos hb0, Int.tmod_eq_emod_of_nonneg hb0]; omega
    · rw [if_neg hb0]; omega
  have hz6 := hz.2.2.2.2.2.2 h3
  have hz10 : dgn (exv A l p) ≤ xz (gl A l) p + 1 := by
    have h9 : exv A l p < 10 ^ ((xz (gl A l) p).toNat + 1) := by
      rw [Int.pow_succ]
      generalize (10 : Int) ^ (xz (gl A l) p).toNat = w at hl ⊢
      omega
    have := dgn_le e0.1 h9 (by omega)
    omega
  by_cases hc : exv A l p < 1000000
  · have e1 := hT.1 hc
    have d6 := dgn_le (k := 6) e0.1 (by rw [show (10 : Int) ^ 6 = 1000000 from rfl]; exact hc) (by omega)
    rw [e1]
    refine ⟨e0.1, hc, ?_, fun b _ _ => rfl, ?_, ?_, ?_⟩
    · rw [hE]; (repeat' split) <;> omega
    · rw [hE]; (repeat' split) <;> omega
    · rw [hE]; (repeat' split) <;> omega
    · rw [hE]; (repeat' split) <;> omega
  · have e1 := hT.2 (by omega)
    have h6 : xz (gl A l) p = 6 := by
      by_cases e6 : xz (gl A l) p ≤ 5
      · have hq : (xz (gl A l) p).toNat = 1 ∨ (xz (gl A l) p).toNat = 2 ∨ (xz (gl A l) p).toNat = 3 ∨ (xz (gl A l) p).toNat = 4 ∨ (xz (gl A l) p).toNat = 5 := by omega
        have hl2 : xv (gl A l) p < 100000 := by
          rcases hq with h | h | h | h | h <;> rw [h] at hl
          · rw [show (10 : Int) ^ 1 = 10 from rfl] at hl; omega
          · rw [show (10 : Int) ^ 2 = 100 from rfl] at hl; omega
          · rw [show (10 : Int) ^ 3 = 1000 from rfl] at hl; omega
          · rw [show (10 : Int) ^ 4 = 10000 from rfl] at hl; omega
          · rw [show (10 : Int) ^ 5 = 100000 from rfl] at hl; omega
        omega
      · omega
    have d6 := dgn_le (v := exv A l p - 1000000) (k := 6) (by omega) (by rw [show (10 : Int) ^ 6 = 1000000 from rfl]; omega) (by omega)
    have hE6 : ezs A l p = 6 := by rw [hE]; (repeat' split) <;> omega
    rw [e1, hE6]
    refine ⟨by omega, by omega, ?_, fun b b0 b1 => dgc_6 (by omega) (by omega) b0 (by omega), by omega, by omega, by omega⟩
    rw [if_pos (by omega), h6]
/-- where piece p of the next line begins -/
def npos (A : lg) (l : Int) (p : Nat) : Int := lsum (fun q => ezs A l q) p
theorem exl_at {A : lg} {l : Int} {n : Nat} {a : Int} (hz : ∀ q : Nat, 0 ≤ ezs A l q) : ∀ (p m : Nat), p + m = n → npos A l p ≤ a → exl A l n 0 a = exl A l m p (a - npos A l p)
  | 0, m, h, ha => by rw [show m = n from by omega, show a - npos A l 0 = a from Int.sub_zero a]
  | p + 1, m, h, ha => by
    have h0 : npos A l (p + 1) = npos A l p + ezs A l p := rfl
    have h1 := hz p
    rw [exl_at hz p (m + 1) (by omega) (by omega)]
    show (if a - npos A l p < ezs A l p then _ else exl A l m (p + 1) (a - npos A l p - ezs A l p)) = _
    rw [if_neg (by omega), h0, show a - npos A l p - ezs A l p = a - (npos A l p + ezs A l p) from by omega]
theorem exl_in {A : lg} {l : Int} {n p : Nat} {a : Int} (hz : ∀ q : Nat, 0 ≤ ezs A l q) (hp : p < n) (h0 : npos A l p ≤ a) (h1 : a < npos A l p + ezs A l p) : exl A l n 0 a = if xk (gl A l) p = 3 then dgc (exv A l p) (ezs A l p - 1 - (a - npos A l p)) else xc (gl A l) (xs (gl A l) p + (a - npos A l p)) := by
  rw [exl_at hz p (n - p) (by omega) h0]
  obtain ⟨m, hm⟩ : ∃ m, n - p = m + 1 := ⟨n - p - 1, by omega⟩
  rw [hm]
  exact if_pos (by omega)
theorem exl_out {A : lg} {l : Int} {n : Nat} {a : Int} (hz : ∀ q : Nat, 0 ≤ ezs A l q) (h0 : npos A l n ≤ a) : exl A l n 0 a = -9999 := by
  rw [exl_at hz n 0 (by omega) h0]; rfl
theorem ezs_0 {A : lg} {l : Int} (hx : xok (gl A l)) (p : Int) : 0 ≤ ezs A l p := by
  have h1 := xz_b hx p
  have h2 := dgn_b (exv A l p)
  unfold ezs
  (repeat' split) <;> omega
