/-! digits; the line that would come next -/
theorem px_10z {v : Int} {i : Nat} (h : px_10 v i = 0) : ∀ j : Nat, i ≤ j → px_10 v j = 0
  | 0, hj => by rw [← Nat.le_zero.mp hj]; exact h
  | j + 1, hj => by
    by_cases he : i = j + 1
    · rw [← he]; exact h
    · show (px_10 v j).tdiv 10 = 0
      rw [px_10z h j (by omega)]; rfl
theorem px_10e {v : Int} (h0 : 0 ≤ v) : ∀ k : Nat, px_10 v k = v / 10 ^ k
  | 0 => by show v = v / 10 ^ 0; rw [Int.pow_zero, Int.ediv_one]
  | k + 1 => by
    show (px_10 v k).tdiv 10 = _
    rw [px_10e h0 k, Int.tdiv_eq_ediv_of_nonneg (Int.ediv_nonneg h0 (Int.pow_nonneg (by decide))), Int.pow_succ, Int.ediv_ediv_of_nonneg (Int.pow_nonneg (by decide))]
def dgn (v : Int) : Int := (px_dg v 9 1 : Nat)
def dgc (v b : Int) : Int := 48 + (px_10 v b.toNat).tmod 10
theorem px_dg_b (v : Int) : ∀ m d : Nat, d ≤ px_dg v m d ∧ px_dg v m d ≤ d + m
  | 0, d => ⟨Nat.le_refl _, Nat.le_refl _⟩
  | m + 1, d => by
    have h := px_dg_b v m (d + 1)
    unfold px_dg
    split <;> omega
theorem dgn_b (v : Int) : 1 ≤ dgn v ∧ dgn v ≤ 10 := by
  have h := px_dg_b v 9 1
  unfold dgn
  omega
theorem dgc_b {v : Int} (h : 0 ≤ v) (b : Int) : 48 ≤ dgc v b ∧ dgc v b ≤ 57 := by
  have h1 := (px_10b h b.toNat).1
  unfold dgc
  rw [Int.tmod_eq_emod_of_nonneg h1]
  omega
def exv (A : lg) (l p : Int) : Int := if 0 < vb A l p then vb A l p else 0
def ezs (A : lg) (l p : Int) : Int := if xk (gl A l) p = 3 then (if 6 ≤ (if xz (gl A l) p < dgn (exv A l p) then dgn (exv A l p) else xz (gl A l) p) then 6 else (if xz (gl A l) p < dgn (exv A l p) then dgn (exv A l p) else xz (gl A l) p)) else xz (gl A l) p
def exl (A : lg) (l : Int) : Nat → Nat → Int → Int
  | 0, _, _ => -9999
  | m + 1, p, a => if a < ezs A l p then (if xk (gl A l) p = 3 then dgc (exv A l p) (ezs A l p - 1 - a) else xc (gl A l) (xs (gl A l) p + a)) else exl A l m (p + 1) (a - ezs A l p)
def gla (A : lg) (t : Int) : Int := glo A t (gn A)
def exc (A : lg) (t k : Int) : Int := exl A (gla A t) (xn (gl A (gla A t))).toNat 0 k
theorem ezs_b {A : lg} (hB : gB A) (l p : Int) : 0 ≤ ezs A l p ∧ ezs A l p ≤ 40 := by
  have h1 := xz_b (gl_ok hB l) p
  have h2 := dgn_b (exv A l p)
  unfold ezs
  (repeat' split) <;> omega
theorem exv_b {A : lg} (hB : gB A) (l p : Int) : 0 ≤ exv A l p ∧ exv A l p ≤ 3000000 := by
  have h1 := vb_b hB l p
  unfold exv
  split <;> omega
theorem xc_b {x : xt} (h : xok x) (k : Int) : -9999 ≤ xc x k ∧ xc x k ≤ 122 := by
  unfold xc px_ch
  split
  · have := px_cb h (k := k) (by omega) (by omega); omega
  · omega
