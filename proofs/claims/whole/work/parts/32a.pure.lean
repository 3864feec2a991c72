/-! texts that grow by characters and numbers; the text that is being written -/
def pab (P : px_T) (n : Nat) (c : Int) : Bool := decide (px_k c ≠ -1) && decide (n < 40) && (px_g P (px_k c) || decide (P.1 < 12)) && (!px_g P (px_k c) || decide (px_k c ≠ 3) || decide (P.2.2.2.1 (P.1 - 1) < 6))
theorem pab_iff {P : px_T} {n : Nat} {c : Int} : pab P n c = true ↔ px_a P n c := by
  unfold pab px_a
  cases px_g P (px_k c) with
  | true =>
    simp only [Bool.true_or, Bool.and_true, Bool.not_true, Bool.false_or, Bool.and_eq_true, Bool.or_eq_true, decide_eq_true_eq]
    constructor
    · intro h; exact ⟨h.1.1, h.1.2, (fun h2 => by cases h2), fun _ h3 => h.2.elim (fun h4 => absurd h3 h4) id⟩
    · intro h; refine ⟨⟨h.1, h.2.1⟩, ?_⟩
      by_cases h3 : px_k c = 3
      · exact Or.inr (h.2.2.2 trivial h3)
      · exact Or.inl h3
  | false =>
    simp only [Bool.false_or, Bool.not_false, Bool.true_or, Bool.and_true, Bool.and_eq_true, decide_eq_true_eq]
    constructor
    · intro h; exact ⟨h.1.1, h.1.2, fun _ => h.2, (fun h2 => by cases h2)⟩
    · intro h; exact ⟨⟨h.1, h.2.1⟩, h.2.2.1 trivial⟩
def xadd (x : xt) (c : Int) : xt := bif pab (px x.2 x.1) x.1 c then (x.1 + 1, mv_up x.2 x.1 c) else x
def xdig (x : xt) (v : Int) : Nat → xt
  | 0 => x
  | m + 1 => xdig (xadd x (dgc v m)) v m
def xnum (x : xt) (v : Int) : xt := xdig x v (dgn v).toNat
/-- the error position of the text f of n characters -/
def erq (f : Int → Int) (i : Int) : Bool := !pab (px f i.toNat) i.toNat (f i)
def er (n : Nat) (f : Int → Int) : Int := if lf (erq f) n = -9999 then (if n = 0 then 0 else -9999) else lf (erq f) n
theorem er_b (n : Nat) (f : Int → Int) : -9999 ≤ er n f ∧ er n f ≤ n := by
  have h := lf_b (q := erq f) n
  unfold er
  (repeat' split) <;> omega
theorem er_ok {n : Nat} {f : Int → Int} (h : er n f = -9999) : px_ok f n ∧ 0 < n := by
  have hb := lf_b (q := erq f) n
  unfold er at h
  by_cases h0 : lf (erq f) n = -9999
  · rw [if_pos h0] at h
    refine ⟨fun i hi => ?_, ?_⟩
    · have h1 := lf_none h0 i hi
      unfold erq at h1
      rw [Int.toNat_natCast] at h1
      exact pab_iff.mp (by cases hp : pab (px f i) i (f i) with | true => rfl | false => rw [hp] at h1; cases h1)
    · by_cases hn : n = 0
      · rw [if_pos hn] at h; omega
      · omega
  · rw [if_neg h0] at h; exact absurd h h0
theorem up_id {f : Int → Int} {i : Int} : mv_up f i (f i) = f := by
  funext j
  unfold mv_up
  split
  · rename_i h; rw [h]
  · rfl
/-- the object's text -/
def TxA (h : mv_H) (n : Nat) (f : Int → Int) : Prop := (h 0).1 = 0 ∧ (h 0).2.2 0 = 1 ∧ (h 0).2.2 1 = n ∧ (h 1).1 = 11 ∧ (h 1).2.1 = 50 ∧ n ≤ 50 ∧ (∀ k : Int, 0 ≤ k → k < n → (h 1).2.2 k = f k) ∧ ∀ k : Int, 0 ≤ k → k < n → 0 ≤ f k ∧ f k ≤ 255
def mv_frl (h h' : mv_H) (l : Int) : Prop := ∀ b : Int, (b < l ∨ l + 5 < b) → h' b = h b
theorem TxA.fr {h h' : mv_H} {n : Nat} {f : Int → Int} {l : Int} (ht : TxA h n f) (hk : mv_frl h h' l) (hl : 2 ≤ l) : TxA h' n f := by
  unfold TxA at *
  rw [hk 0 (by omega), hk 1 (by omega)]
  exact ht
