/-! the face: bounds of answers (written by wip/whole/m61.py) -/
section BD
variable {A : lg}
theorem cch_b (hB : gB A) : 0 ≤ cch A ∧ cch A ≤ 960 := by
  have h := lsum_b (f := fun i => ((gl A i).1 : Int)) (b := 40) (by decide) (gn A) (fun i _ => by have := xn_b (gl_ok hB i); omega)
  have := hB.1
  unfold cch; omega
theorem csl_b (hB : gB A) (t k : Int) : 0 ≤ csl A t k ∧ csl A t k ≤ 12 := by
  have h := lc_b (q := fun p => decide (gk A t p = k)) (xn (gs A t)).toNat
  have := xn_b (gs_ok hB t)
  unfold csl; omega
theorem csls_b (hB : gB A) (k : Int) : 0 ≤ csls A k ∧ csls A k ≤ 144 := by
  have h := lsum_b (f := fun t => csl A t k) (b := 12) (by decide) (gT A) (fun i _ => csl_b hB i k)
  have := hB.2.1
  unfold csls; omega
theorem cdw_b (hB : gB A) : 0 ≤ cdw A ∧ cdw A ≤ 288 := by
  have h := lsum_b (f := fun i => lc (fun p => decide (xk (gl A i) p = 0) && !cwb A i p) (xn (gl A i)).toNat) (b := 12) (by decide) (gn A) (fun i _ => by
    have h1 := lc_b (q := fun p => decide (xk (gl A i) p = 0) && !cwb A i p) (xn (gl A i)).toNat
    have h2 := xn_b (gl_ok hB i)
    omega)
  have := hB.1
  unfold cdw; omega
theorem clb_b (hB : gB A) (t pl : Int) : 0 ≤ clb A t pl ∧ clb A t pl ≤ 24 := by
  have h := lc_b (q := fun i => decide (i < pl) && decide (gP A i = t)) (gn A)
  have := hB.1
  unfold clb; omega
theorem clv_b (hB : gB A) (v : Int) : 0 ≤ clv A v ∧ clv A v ≤ 24 := by
  have h := lc_b (q := fun i => hasv (gl A i) v) (gn A)
  have := hB.1
  unfold clv; omega
theorem cdt_b (hB : gB A) (t p : Int) : 0 ≤ cdt A t p ∧ cdt A t p ≤ 24 := by
  have h := lc_b (q := fun i => decide (gP A i = t) && !cz A (gl A i) t p i) (gn A)
  have := hB.1
  unfold cdt
  split <;> omega
theorem crs_b (t p : Int) : ∀ (m : Nat) (l s v : Int), l ≤ crs A t p m l s v ∧ crs A t p m l s v ≤ l + m
  | 0, l, s, v => ⟨Int.le_refl _, by show l ≤ l + 0; omega⟩
  | m + 1, l, s, v => by
    show l ≤ (if gt A m = t then (if 1 < l ∧ v - xv (gl A m) p ≠ (if l = 1 then v - xv (gl A m) p else s) then l else crs A t p m (l + 1) (if l = 1 then v - xv (gl A m) p else s) (xv (gl A m) p)) else crs A t p m l s v) ∧ (if gt A m = t then (if 1 < l ∧ v - xv (gl A m) p ≠ (if l = 1 then v - xv (gl A m) p else s) then l else crs A t p m (l + 1) (if l = 1 then v - xv (gl A m) p else s) (xv (gl A m) p)) else crs A t p m l s v) ≤ l + ((m + 1 : Nat) : Int)
    generalize (if l = 1 then v - xv (gl A m) p else s) = s'
    have i1 := crs_b t p m (l + 1) s' (xv (gl A m) p)
    have i2 := crs_b t p m l s v
    by_cases h1 : gt A m = t
    · rw [if_pos h1]
      by_cases h2 : 1 < l ∧ v - xv (gl A m) p ≠ s'
      · rw [if_pos h2]; omega
      · rw [if_neg h2]; omega
    · rw [if_neg h1]; omega
theorem exl_b (hB : gB A) (l : Int) : ∀ (m p : Nat) (a : Int), -9999 ≤ exl A l m p a ∧ exl A l m p a ≤ 122
  | 0, p, a => by show (-9999 : Int) ≤ -9999 ∧ (-9999 : Int) ≤ 122; omega
  | m + 1, p, a => by
    show -9999 ≤ (if a < ezs A l p then _ else _) ∧ (if a < ezs A l p then _ else _) ≤ 122
    split
    · split
      · have := dgc_b (exv_b hB l p).1 (ezs A l p - 1 - a); omega
      · exact xc_b (gl_ok hB l) _
    · exact exl_b hB l m (p + 1) _
theorem gfi_i (A : lg) (t : Int) : -9999 ≤ gfi A t ∧ gfi A t < gn A := by have := lf_b (q := fun i => decide (gP A i = t)) (gn A); unfold gfi; omega
end BD
