/-! the reference: counting in rows (written by wip/whole/m41.py) -/
section MU
variable {q : Int → Bool}
theorem ll_rest {i : Nat} : ∀ {n : Nat}, i ≤ n → (∀ j : Nat, i ≤ j → j < n → q j = false) → ll q n = ll q i
  | 0, h, _ => by rw [show i = 0 from by omega]
  | n + 1, h, hq => by
    by_cases hi : i = n + 1
    · rw [hi]
    · rw [ll_s (hq n (by omega) (by omega))]
      exact ll_rest (by omega) (fun j h1 h2 => hq j h1 (by omega))
end MU
theorem glo_ll {A : lg} {t i : Int} (h0 : 0 ≤ i) (h1 : i ≤ gn A) : glo A t i = ll (fun k => decide (gP A k = t)) i.toNat := by
  unfold glo
  rw [ll_rest (i := i.toNat) (by omega) (fun j a1 a2 => by show (decide ((j : Int) < i) && _) = false; rw [decide_eq_false (by omega)]; rfl)]
  exact ll_ext (fun j hj => by show (decide ((j : Int) < i) && _) = _; rw [decide_eq_true (by omega)]; rfl)
/-- the first line of a template -/
def gfi (A : lg) (t : Int) : Int := lf (fun i => decide (gP A i = t)) (gn A)
theorem gfi_b {A : lg} (hI : gI A) {t : Int} (h0 : 0 ≤ t) (h1 : t < gT A) : 0 ≤ gfi A t ∧ gfi A t < gn A ∧ gP A (gfi A t) = t ∧ ∀ j : Nat, (j : Int) < gfi A t → gP A j ≠ t := by
  have hne : gfi A t ≠ -9999 := by
    intro h
    obtain ⟨i, i0, i1, i2⟩ := (hI.2.2.2 t h0 h1).2.1
    have := lf_none h i.toNat (by omega)
    rw [decide_eq_false_iff_not] at this
    exact this (by rw [show ((i.toNat : Nat) : Int) = i from by omega]; exact i2)
  obtain ⟨i, i1, i2, i3, i4⟩ := lf_some hne
  have e : gfi A t = i := i2
  rw [e]
  exact ⟨by omega, by omega, of_decide_eq_true i3, fun j hj => of_decide_eq_false (i4 j (by omega))⟩
theorem gP_b {A : lg} (hI : gI A) {i : Int} (h0 : 0 ≤ i) (h1 : i < gn A) : 0 ≤ gP A i ∧ gP A i < gT A ∧ gT A ≤ 13 ∧ gn A ≤ 25 := ⟨(hI.2.2.1 i h0 h1).1, (hI.2.2.1 i h0 h1).2.1, hI.2.1, hI.1⟩
