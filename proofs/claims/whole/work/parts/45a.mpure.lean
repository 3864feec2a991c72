/-! the reference: pure facts on costs (written by wip/whole/m45.py) -/
theorem Pc_fr {v w : mvt} {R : Int → Int} {U i : Int} {x : xt} {p o : Int} (hp : Pc v R U i x p) (hf : Cf v w o) (hU : U < o ∨ o + 12 ≤ U) : Pc w R U i x p := by
  unfold Pc at *
  rw [hf.2 272 U (by omega), hf.2 273 U (by omega), hf.2 274 U (by omega)]
  exact hp
section CM
variable {A : lg} {x : xt} {t i j p : Int}
theorem con_0 : con A x p (-9999) = xz x p := if_pos (Or.inl rfl)
theorem con_m (h0 : 0 ≤ j) (h1 : j < gn A) (ht : gP A j = t) : con A x p j = if xz (gL A j) p = xz x p ∧ xv x p = xv (gL A j) p + (if glo A t j = -9999 then 0 else xv (gL A j) p - xv (gL A (glo A t j)) p) then 1 else xz x p := by
  unfold con
  rw [gl_L h0 h1]
  by_cases hz : xz (gL A j) p = xz x p
  · rw [if_neg (by omega)]
    unfold vb
    rw [gt_P h0 h1, ht, gl_L h0 h1]
    rcases glo_p A t j with hg | hg
    · rw [if_pos hg, if_pos hg, Int.add_zero]
      by_cases h9 : xv x p = xv (gL A j) p
      · rw [if_pos h9, if_pos ⟨hz, h9⟩]
      · rw [if_neg h9, if_neg (fun q => h9 q.2)]
    · have hne : ¬ glo A t j = -9999 := by omega
      rw [if_neg hne, if_neg hne, gl_L hg.1 hg.2.2.1]
      by_cases h9 : xv x p = xv (gL A j) p + (xv (gL A j) p - xv (gL A (glo A t j)) p)
      · rw [if_pos h9, if_pos ⟨hz, h9⟩]
      · rw [if_neg h9, if_neg (fun q => h9 q.2)]
  · rw [if_pos (by omega), if_neg (fun q => hz q.1)]
theorem cz_t {k : Int} (h0 : 0 ≤ k) (h1 : k < gn A) (h2 : k < i) (ht : gP A k = t) (hs : csm A x p k = true) : cz A x t p i = true := by
  refine lo_t (i := k.toNat) ?_ (by omega)
  rw [show ((k.toNat : Nat) : Int) = k from by omega, decide_eq_true h2, gt_P h0 h1, decide_eq_true ht, hs]
  rfl
theorem cz_f (hs : ∀ k : Int, 0 ≤ k → k < i → k < gn A → gP A k = t → csm A x p k = false) : cz A x t p i = false := by
  refine lo_f.mpr (fun k hk => ?_)
  by_cases h2 : (k : Int) < i
  · rw [gt_P (by omega) (by omega)]
    by_cases ht : gP A k = t
    · rw [hs k (by omega) h2 (by omega) ht, Bool.and_false]
    · rw [decide_eq_false ht, Bool.and_false]; rfl
  · rw [decide_eq_false h2]; rfl
theorem csm_w {k : Int} (hk : xk x p ≠ 3) (h0 : 0 ≤ k) (h1 : k < gn A) : csm A x p k = xw x p (gL A k) p := by
  unfold csm
  rw [if_neg hk, gl_L h0 h1]
theorem csm_v {k : Int} (hk : xk x p = 3) (h0 : 0 ≤ k) (h1 : k < gn A) : csm A x p k = decide (xv x p = xv (gL A k) p) := by
  unfold csm
  rw [if_pos hk, gl_L h0 h1]
end CM
