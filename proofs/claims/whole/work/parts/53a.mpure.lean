/-! the reference: texts, digits, the diary (written by wip/whole/m53.py) -/
/-- the reference's text -/
def TxM (v : mvt) (N : Nat) (f : Int → Int) : Prop := v 264 2 = N ∧ N ≤ 50 ∧ (∀ k : Int, 0 ≤ k → k < N → v 265 k = f k) ∧ ∀ k : Int, 0 ≤ k → k < N → 0 ≤ f k ∧ f k ≤ 255
theorem px_okl {f : Int → Int} {k : Nat} (h : lf (erq f) k = -9999) : px_ok f k := fun i hi => by
  have := lf_none h i hi
  unfold erq at this
  rw [show ((i : Int)).toNat = i from rfl, Bool.not_eq_false'] at this
  exact pab_iff.mp this
theorem erq_k {f : Int → Int} {k : Nat} : erq f (k : Int) = !pab (px f k) k (f k) := rfl
theorem pab_c {P : px_T} {n : Nat} {c : Int} : pab P n c = true ↔ (px_k c ≠ -1 ∧ n < 40 ∧ (px_g P (px_k c) = false → P.1 < 12) ∧ (px_g P (px_k c) = true → px_k c = 3 → P.2.2.2.1 (P.1 - 1) < 6)) := pab_iff
theorem px_last {P : px_T} {c i : Int} : (px_g P (px_k c) = true → (px_add P c i).1 = P.1 ∧ (px_add P c i).2.1 ((px_add P c i).1 - 1) = P.2.1 (P.1 - 1) ∧ (px_add P c i).2.2.2.1 ((px_add P c i).1 - 1) = P.2.2.2.1 (P.1 - 1) + 1) ∧
    (px_g P (px_k c) = false → (px_add P c i).1 = P.1 + 1 ∧ (px_add P c i).2.1 ((px_add P c i).1 - 1) = px_k c ∧ (px_add P c i).2.2.2.1 ((px_add P c i).1 - 1) = 1) := by
  unfold px_add
  refine ⟨fun hg => ?_, fun hg => ?_⟩
  · rw [hg]
    refine ⟨rfl, rfl, ?_⟩
    show mv_up P.2.2.2.1 (P.1 - 1) (P.2.2.2.1 (P.1 - 1) + 1) (P.1 - 1) = _
    rw [up_s]
  · rw [hg]
    refine ⟨rfl, ?_, ?_⟩
    · show mv_up P.2.1 P.1 (px_k c) (P.1 + 1 - 1) = _
      rw [show P.1 + 1 - 1 = P.1 from by omega, up_s]
    · show mv_up P.2.2.2.1 P.1 1 (P.1 + 1 - 1) = _
      rw [show P.1 + 1 - 1 = P.1 from by omega, up_s]
theorem p10 : ∀ j : Nat, j ≤ 8 → (1 : Int) ≤ 10 ^ j ∧ (10 : Int) ^ j ≤ 100000000
  | 0, _ => by decide
  | 1, _ => by decide
  | 2, _ => by decide
  | 3, _ => by decide
  | 4, _ => by decide
  | 5, _ => by decide
  | 6, _ => by decide
  | 7, _ => by decide
  | 8, _ => by decide
  | j + 9, h => by omega
theorem dgc_e {x : Int} (h0 : 0 ≤ x) {j : Nat} (hj : j ≤ 8) : 48 + (x.tdiv (10 ^ j)).tmod 10 = dgc x j := by
  unfold dgc
  rw [show ((j : Int)).toNat = j from rfl, px_10e h0, Int.tdiv_eq_ediv_of_nonneg h0]
theorem p10_d (j : Nat) : ((10 : Int) ^ (j + 1)).tdiv 10 = 10 ^ j := by
  rw [Int.pow_succ]
  exact Int.mul_tdiv_cancel _ (by decide)
theorem Rw_ext {A : lg} {R R' : Int → Int} (hR : Rw R A) (hI : gI A) (e : ∀ q : Int, 0 ≤ q → q < 1221 → R' q = R q) : Rw R' A := by
  have b1 := hI.1
  have b2 := hI.2.1
  refine ⟨(e 0 (by omega) (by omega)).trans hR.1, (e 1 (by omega) (by omega)).trans hR.2.1, fun i i0 i1 => ?_, fun t t0 t1 => ?_⟩
  · obtain ⟨q1, q2⟩ := hR.2.2.1 i i0 i1
    exact ⟨Rl_cg (gLok hI i0 i1) q1 (fun k k0 k1 _ => e _ (by omega) (by omega)), (e _ (by omega) (by omega)).trans q2⟩
  · obtain ⟨q1, q2⟩ := hR.2.2.2 t t0 t1
    have b := xn_b (hI.2.2.2 t t0 t1).1
    exact ⟨(e _ (by omega) (by omega)).trans q1, fun p p0 p1 => (e _ (by omega) (by omega)).trans (q2 p p0 p1)⟩
/-- the reference's diary -/
def HdR (v : mvt) (n : Nat) (g : Int → lg) : Prop := n ≤ 14 ∧ v 264 7 = n ∧ ∀ j : Int, 0 ≤ j → j < n → gI (g j) ∧ Rw (fun q => v 269 (1221 * j + q)) (g j)
