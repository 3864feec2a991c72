/-! states that nothing touched; the history -/
theorem StW.kp {h h' : mv_H} {s : Int} (hs : StW h s) (hk : ∀ b : Int, (b ≤ 164 ∨ 277 ≤ b ∨ (s ≤ b ∧ b ≤ s + 4)) → h' b = h b) : StW h' s := by
  obtain ⟨s1, s2, t0, f0, f1, f2, f3, f4, t1, t2, t3, t4, hl0⟩ := hs
  unfold StW
  rw [hk s (by omega), hk (s + 1) (by omega), hk (s + 2) (by omega), hk (s + 3) (by omega), hk (s + 4) (by omega)]
  exact ⟨s1, s2, t0, f0, f1, f2, f3, f4, t1, t2, t3, t4, hl0.kept (fun b _ _ => hk b (by omega))⟩
theorem StA.kp {h h' : mv_H} {s : Int} {A : lg} (hs : StA h s A) (hk : ∀ b : Int, (b ≤ 164 ∨ 277 ≤ b ∨ (s ≤ b ∧ b ≤ s + 4)) → h' b = h b) : StA h' s A := by
  have hw := hs.1.kp hk
  have hl : ∀ (l : Int) (x : xt), LnX h l x → LnX h' l x := fun l x hx => hx.kept (fun b _ _ => hk b (by have := hx.1.1.2; omega))
  obtain ⟨⟨s1, s2, _⟩, v0, v1, v2, v3, v4, v5, v6⟩ := hs
  refine ⟨hw, v0, ?_, ?_, fun i h3 h4 => ?_, fun i h3 h4 => ?_, fun i h3 h4 => ?_, fun i h3 h4 => ?_⟩
  · rw [hk s (by omega)]; exact v1
  · rw [hk s (by omega)]; exact v2
  · rw [hk (s + 1) (by omega)]; exact hl _ _ (v3 i h3 h4)
  · rw [hk (s + 2) (by omega)]; exact v4 i h3 h4
  · rw [hk (s + 3) (by omega)]; exact hl _ _ (v5 i h3 h4)
  · rw [hk (s + 4) (by omega)]; exact v6 i h3 h4
/-- the ring of the history -/
def HsW (h : mv_H) : Prop := (h 180).1 = 3 ∧ (h 180).2.2 0 = 181 ∧ (h 181).1 = 15 ∧ (h 181).2.1 = 14 ∧ ∀ k : Int, 0 ≤ k → k < 14 → (h 181).2.2 k = 182 + 5 * k ∧ StW h (182 + 5 * k)
def HsA (h : mv_H) (n : Nat) (g : Int → lg) : Prop := HsW h ∧ n ≤ 14 ∧ (h 180).2.2 2 = n ∧ ∃ o : Int, 0 ≤ o ∧ o < 14 ∧ (h 180).2.2 1 = o ∧ ∀ j : Int, 0 ≤ j → j < n → StA h (182 + 5 * ((o + j) % 14)) (g j)
def hs_n (n : Nat) : Nat := if n = 14 then 14 else n + 1
def hs_g (n : Nat) (g : Int → lg) (A : lg) : Int → lg := if n = 14 then (fun j => if j = 13 then A else g (j + 1)) else (fun j => if j = n then A else g j)
theorem xo_b {a : Int} (h0 : 0 ≤ a) (h1 : a ≤ 1000) : ((a.toNat ^^^ (14 : Int).toNat : Nat) : Int) ≤ 1023 := by
  have h2 : a.toNat < 2 ^ 10 := by have : (2 : Nat) ^ 10 = 1024 := rfl; omega
  have h3 : (14 : Int).toNat < 2 ^ 10 := by decide
  have h4 := Nat.xor_lt_two_pow h2 h3
  have h5 : (2 : Nat) ^ 10 = 1024 := rfl
  omega
