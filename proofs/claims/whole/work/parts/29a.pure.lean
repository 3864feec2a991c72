/-! costs and numbers of a log -/
theorem lc_rest {q : Int → Bool} {i : Nat} : ∀ {n : Nat}, i ≤ n → (∀ j : Nat, i ≤ j → j < n → q j = false) → lc q n = lc q i
  | 0, h, _ => by rw [Nat.le_zero.mp h]
  | n + 1, h, hf => by
    by_cases he : i = n + 1
    · rw [he]
    · rw [lc_f (hf n (by omega) (by omega)), lc_rest (by omega) (fun j h1 h2 => hf j h1 (by omega))]
theorem lo_rest {q : Int → Bool} {i : Nat} : ∀ {n : Nat}, i ≤ n → (∀ j : Nat, i ≤ j → j < n → q j = false) → lo q n = lo q i
  | 0, h, _ => by rw [Nat.le_zero.mp h]
  | n + 1, h, hf => by
    by_cases he : i = n + 1
    · rw [he]
    · show (lo q n || q n) = _
      rw [hf n (by omega) (by omega), Bool.or_false, lo_rest (by omega) (fun j h1 h2 => hf j h1 (by omega))]
def glo (A : lg) (t pl : Int) : Int := ll (fun i => decide (i < pl) && decide (gP A i = t)) (gn A)
def csm (A : lg) (x : xt) (p i : Int) : Bool := if xk x p = 3 then decide (xv x p = xv (gl A i) p) else xw x p (gl A i) p
def cz (A : lg) (x : xt) (t p pl : Int) : Bool := lo (fun i => decide (i < pl) && decide (gt A i = t) && csm A x p i) (gn A)
def vb (A : lg) (i p : Int) : Int := if glo A (gt A i) i = -9999 then xv (gl A i) p else xv (gl A i) p + (xv (gl A i) p - xv (gl A (glo A (gt A i) i)) p)
def con (A : lg) (x : xt) (p b : Int) : Int := if b = -9999 ∨ xz x p ≠ xz (gl A b) p then xz x p else if xv x p = vb A b p then 1 else xz x p
def cop (A : lg) (x : xt) (t pl p : Int) : Int := if xk x p = 3 then con A x p (glo A t pl) else if go A t p = true then (if cz A x t p pl = true then 1 else xz x p) else 0
def col (A : lg) (x : xt) (t pl : Int) : Int := 1 + lsum (cop A x t pl) (xn x).toNat
def cols (A : lg) : Int := lsum (fun i => col A (gl A i) (gt A i) i) (gn A)
def csl1 (A : lg) (t p : Int) : Bool := decide (gk A t p = 3) || decide (gk A t p = 4)
def cot (A : lg) (t : Int) : Int := lsum (fun p => if csl1 A t p = true then 1 else xz (gs A t) p) (xn (gs A t)).toNat
def cots (A : lg) : Int := lsum (fun t => cot A t) (gT A)
def cal (A : lg) : Int := cols A + cots A
def cch (A : lg) : Int := lsum (fun i => (gl A i).1) (gn A)
def csl (A : lg) (t k : Int) : Int := lc (fun p => decide (gk A t p = k)) (xn (gs A t)).toNat
def csls (A : lg) (k : Int) : Int := lsum (fun t => csl A t k) (gT A)
def clb (A : lg) (t pl : Int) : Int := lc (fun i => decide (i < pl) && decide (gP A i = t)) (gn A)
def hasv (x : xt) (v : Int) : Bool := lo (fun p => decide (xv x p = v)) (xn x).toNat
def clv (A : lg) (v : Int) : Int := lc (fun i => hasv (gl A i) v) (gn A)
def cwe (A : lg) (i p j : Int) : Int := if j = i then p else xn (gl A j)
def cwb (A : lg) (i p : Int) : Bool := lo (fun j => lo (fun q => xw (gl A i) p (gl A j) q) (cwe A i p j).toNat) (i + 1).toNat
def cdw (A : lg) : Int := lsum (fun i => lc (fun p => decide (xk (gl A i) p = 0) && !cwb A i p) (xn (gl A i)).toNat) (gn A)
def cdt (A : lg) (t p : Int) : Int := if csl1 A t p = true then lc (fun i => decide (gP A i = t) && !cz A (gl A i) t p i) (gn A) else 1
def crs (A : lg) (t p : Int) : Nat → Int → Int → Int → Int
  | 0, l, _, _ => l
  | m + 1, l, s, v => if gt A m = t then (if 1 < l ∧ v - xv (gl A m) p ≠ (if l = 1 then v - xv (gl A m) p else s) then l else crs A t p m (l + 1) (if l = 1 then v - xv (gl A m) p else s) (xv (gl A m) p)) else crs A t p m l s v
section CB
variable {A : lg} (hB : gB A)
theorem glo_b (A : lg) (t pl : Int) : -9999 ≤ glo A t pl ∧ glo A t pl < gn A ∧ (glo A t pl < 0 → glo A t pl = -9999) := ll_b _
theorem vb_b (hB : gB A) (i p : Int) : -3000000 ≤ vb A i p ∧ vb A i p ≤ 3000000 := by
  have h1 := xv_b (gl_ok hB i) p
  have h2 := xv_b (gl_ok hB (glo A (gt A i) i)) p
  unfold vb
  split <;> omega
theorem con_b (hB : gB A) {x : xt} (hx : xok x) (p b : Int) : 0 ≤ con A x p b ∧ con A x p b ≤ 40 := by
  have h1 := xz_b hx p
  unfold con
  (repeat' split) <;> omega
theorem cop_b (hB : gB A) {x : xt} (hx : xok x) (t pl p : Int) : 0 ≤ cop A x t pl p ∧ cop A x t pl p ≤ 40 := by
  have h1 := xz_b hx p
  have h2 := con_b hB hx p (glo A t pl)
  unfold cop
  (repeat' split) <;> omega
theorem col_b (hB : gB A) {x : xt} (hx : xok x) (t pl : Int) : 0 ≤ col A x t pl ∧ col A x t pl ≤ 481 := by
  have h1 := xn_b hx
  have h2 := lsum_b (f := cop A x t pl) (b := 40) (by decide) (xn x).toNat (fun i _ => cop_b hB hx t pl i)
  unfold col
  omega
theorem cols_b (hB : gB A) : 0 ≤ cols A ∧ cols A ≤ 11544 := by
  have h2 := lsum_b (f := fun i => col A (gl A i) (gt A i) i) (b := 481) (by decide) (gn A) (fun i _ => col_b hB (gl_ok hB i) _ _)
  have h3 := hB.1
  unfold cols
  omega
theorem cot_b (hB : gB A) (t : Int) : 0 ≤ cot A t ∧ cot A t ≤ 480 := by
  have h1 := xn_b (gs_ok hB t)
  have h2 := lsum_b (f := fun p => if csl1 A t p = true then 1 else xz (gs A t) p) (b := 40) (by decide) (xn (gs A t)).toNat (fun i _ => by
    have h3 := xz_b (gs_ok hB t) i
    split <;> omega)
  unfold cot
  omega
theorem cots_b (hB : gB A) : 0 ≤ cots A ∧ cots A ≤ 5760 := by
  have h2 := lsum_b (f := fun t => cot A t) (b := 480) (by decide) (gT A) (fun i _ => cot_b hB i)
  have h3 := hB.2.1
  unfold cots
  omega
theorem cal_b (hB : gB A) : 0 ≤ cal A ∧ cal A ≤ 20000 := by
  have h1 := cols_b hB
  have h2 := cots_b hB
  unfold cal
  omega
end CB
