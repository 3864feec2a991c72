/-! loops over numbers: the first, the last, how many, the sum, all, any; the log as numbers and functions -/
def lf (q : Int → Bool) : Nat → Int
  | 0 => -9999
  | m + 1 => bif decide (lf q m = -9999) then (bif q m then (m : Int) else -9999) else lf q m
def ll (q : Int → Bool) : Nat → Int
  | 0 => -9999
  | m + 1 => bif q m then (m : Int) else ll q m
def lc (q : Int → Bool) : Nat → Int
  | 0 => 0
  | m + 1 => lc q m + (bif q m then 1 else 0)
def lsum (f : Int → Int) : Nat → Int
  | 0 => 0
  | m + 1 => lsum f m + f m
def la (q : Int → Bool) : Nat → Bool
  | 0 => true
  | m + 1 => la q m && q m
def lo (q : Int → Bool) : Nat → Bool
  | 0 => false
  | m + 1 => lo q m || q m
section LOOPS
variable {q : Int → Bool}
theorem lf_n : ∀ {n : Nat}, (∀ i : Nat, i < n → q i = false) → lf q n = -9999
  | 0, _ => rfl
  | n + 1, h => by
    unfold lf
    rw [lf_n (fun i hi => h i (Nat.lt_succ_of_lt hi)), h n (Nat.lt_succ_self n)]
    rfl
theorem lf_hit {i : Nat} (h0 : lf q i = -9999) (h1 : q i = true) : ∀ {n : Nat}, i < n → lf q n = i
  | 0, h => absurd h (Nat.not_lt_zero _)
  | n + 1, h => by
    unfold lf
    by_cases hi : i < n
    · rw [lf_hit h0 h1 hi, show decide ((i : Int) = -9999) = false from decide_eq_false (by omega)]
      rfl
    · have he : i = n := by omega
      subst he
      rw [h0, h1]
      rfl
theorem lf_s {i : Nat} (h0 : lf q i = -9999) (h1 : q i = false) : lf q (i + 1) = -9999 := by
  unfold lf
  rw [h0, h1]
  rfl
theorem lf_none : ∀ {n : Nat}, lf q n = -9999 → ∀ i : Nat, i < n → q i = false
  | 0, _, i, hi => absurd hi (Nat.not_lt_zero _)
  | n + 1, h, i, hi => by
    unfold lf at h
    by_cases h0 : lf q n = -9999
    · cases hq : q n with
      | true =>
        rw [h0, hq] at h
        have h : (n : Int) = -9999 := h
        omega
      | false =>
        by_cases hj : i = n
        · rw [hj]; exact hq
        · exact lf_none h0 i (by omega)
    · rw [show decide (lf q n = -9999) = false from decide_eq_false h0] at h
      exact absurd h h0
theorem lf_some : ∀ {n : Nat}, lf q n ≠ -9999 → ∃ i : Nat, i < n ∧ lf q n = i ∧ q i = true ∧ ∀ j : Nat, j < i → q j = false
  | 0, h => absurd rfl h
  | n + 1, h => by
    by_cases h0 : lf q n = -9999
    · have h1 : lf q (n + 1) = cond (q n) (n : Int) (-9999) := by
        show cond (decide (lf q n = -9999)) _ _ = _
        rw [h0]; rfl
      rw [h1] at h ⊢
      cases hq : q n with
      | false => rw [hq] at h; exact absurd rfl h
      | true => exact ⟨n, Nat.lt_succ_self n, rfl, hq, lf_none h0⟩
    · have h1 : lf q (n + 1) = lf q n := by
        show cond (decide (lf q n = -9999)) _ _ = _
        rw [decide_eq_false h0]; rfl
      rw [h1]
      obtain ⟨i, h2, h3, h4, h5⟩ := lf_some h0
      exact ⟨i, by omega, h3, h4, h5⟩
theorem lf_b (n : Nat) : -9999 ≤ lf q n ∧ lf q n < n ∧ (lf q n < 0 → lf q n = -9999) := by
  by_cases h : lf q n = -9999
  · omega
  · obtain ⟨i, h1, h2, _⟩ := lf_some h
    omega
theorem lf_ext {q' : Int → Bool} : ∀ {n : Nat}, (∀ i : Nat, i < n → q i = q' i) → lf q n = lf q' n
  | 0, _ => rfl
  | n + 1, h => by
    unfold lf
    rw [lf_ext (fun i hi => h i (Nat.lt_succ_of_lt hi)), h n (Nat.lt_succ_self n)]
theorem ll_ext {q' : Int → Bool} : ∀ {n : Nat}, (∀ i : Nat, i < n → q i = q' i) → ll q n = ll q' n
  | 0, _ => rfl
  | n + 1, h => by
    unfold ll
    rw [ll_ext (fun i hi => h i (Nat.lt_succ_of_lt hi)), h n (Nat.lt_succ_self n)]
theorem ll_b (n : Nat) : -9999 ≤ ll q n ∧ ll q n < n ∧ (ll q n < 0 → ll q n = -9999) := by
  induction n with
  | zero => exact ⟨Int.le_refl _, by show (-9999 : Int) < 0; decide, fun _ => rfl⟩
  | succ n ih =>
    unfold ll
    cases q n with
    | true => rw [cond_true]; omega
    | false => rw [cond_false]; omega
theorem ll_s {i : Nat} (h : q i = false) : ll q (i + 1) = ll q i := by
  show cond (q i) _ _ = _
  rw [h]; rfl
theorem ll_h {i : Nat} (h : q i = true) : ll q (i + 1) = i := by
  show cond (q i) _ _ = _
  rw [h]; rfl
theorem ll_some : ∀ {n : Nat}, ll q n ≠ -9999 → ∃ i : Nat, i < n ∧ ll q n = i ∧ q i = true ∧ ∀ j : Nat, i < j → j < n → q j = false
  | 0, h => absurd rfl h
  | n + 1, h => by
    cases hq : q n with
    | true => exact ⟨n, Nat.lt_succ_self n, ll_h hq, hq, fun j h1 h2 => by omega⟩
    | false =>
      rw [ll_s hq] at h ⊢
      obtain ⟨i, h1, h2, h3, h4⟩ := ll_some h
      refine ⟨i, by omega, h2, h3, fun j h5 h6 => ?_⟩
      by_cases hj : j = n
      · rw [hj]; exact hq
      · exact h4 j h5 (by omega)
theorem ll_none : ∀ {n : Nat}, ll q n = -9999 → ∀ i : Nat, i < n → q i = false
  | 0, _, i, hi => absurd hi (Nat.not_lt_zero _)
  | n + 1, h, i, hi => by
    cases hq : q n with
    | true => rw [ll_h hq] at h; omega
    | false =>
      rw [ll_s hq] at h
      by_cases hj : i = n
      · rw [hj]; exact hq
      · exact ll_none h i (by omega)
theorem lc_b (n : Nat) : 0 ≤ lc q n ∧ lc q n ≤ n := by
  induction n with
  | zero => exact ⟨Int.le_refl _, Int.le_refl _⟩
  | succ n ih =>
    unfold lc
    cases q n with
    | true => rw [cond_true]; omega
    | false => rw [cond_false]; omega
theorem lc_t {i : Nat} (h : q i = true) : lc q (i + 1) = lc q i + 1 := by
  show lc q i + cond (q i) _ _ = _
  rw [h]; rfl
theorem lc_f {i : Nat} (h : q i = false) : lc q (i + 1) = lc q i := by
  show lc q i + cond (q i) _ _ = _
  rw [h]; exact Int.add_zero _
theorem lc_ext {q' : Int → Bool} : ∀ {n : Nat}, (∀ i : Nat, i < n → q i = q' i) → lc q n = lc q' n
  | 0, _ => rfl
  | n + 1, h => by
    unfold lc
    rw [lc_ext (fun i hi => h i (Nat.lt_succ_of_lt hi)), h n (Nat.lt_succ_self n)]
theorem lsum_ext {f g : Int → Int} : ∀ {n : Nat}, (∀ i : Nat, i < n → f i = g i) → lsum f n = lsum g n
  | 0, _ => rfl
  | n + 1, h => by
    unfold lsum
    rw [lsum_ext (fun i hi => h i (Nat.lt_succ_of_lt hi)), h n (Nat.lt_succ_self n)]
theorem lsum_b {f : Int → Int} {b : Int} (hb : 0 ≤ b) : ∀ (n : Nat), (∀ i : Nat, i < n → 0 ≤ f i ∧ f i ≤ b) → 0 ≤ lsum f n ∧ lsum f n ≤ b * n
  | 0, _ => ⟨Int.le_refl _, by show (0 : Int) ≤ b * 0; rw [Int.mul_zero]; exact Int.le_refl _⟩
  | n + 1, h => by
    have h1 := lsum_b hb n (fun i hi => h i (Nat.lt_succ_of_lt hi))
    have h2 := h n (Nat.lt_succ_self n)
    show 0 ≤ lsum f n + f n ∧ lsum f n + f n ≤ b * ((n : Int) + 1)
    rw [Int.mul_add, Int.mul_one]
    omega
theorem la_f {i n : Nat} (h : q i = false) (hi : i < n) : la q n = false := by
  induction n with
  | zero => exact absurd hi (Nat.not_lt_zero _)
  | succ n ih =>
    unfold la
    by_cases he : i = n
    · subst he; rw [h, Bool.and_false]
    · rw [ih (by omega), Bool.false_and]
theorem la_t : ∀ {n : Nat}, (la q n = true ↔ ∀ i : Nat, i < n → q i = true)
  | 0 => ⟨fun _ i hi => absurd hi (Nat.not_lt_zero _), fun _ => rfl⟩
  | n + 1 => by
    unfold la
    rw [Bool.and_eq_true, la_t]
    constructor
    · intro h i hi
      by_cases he : i = n
      · subst he; exact h.2
      · exact h.1 i (by omega)
    · exact fun h => ⟨fun i hi => h i (by omega), h n (by omega)⟩
theorem lo_t {i n : Nat} (h : q i = true) (hi : i < n) : lo q n = true := by
  induction n with
  | zero => exact absurd hi (Nat.not_lt_zero _)
  | succ n ih =>
    unfold lo
    by_cases he : i = n
    · subst he; rw [h, Bool.or_true]
    · rw [ih (by omega), Bool.true_or]
theorem lo_s {i : Nat} (h0 : lo q i = false) (h : q i = false) : lo q (i + 1) = false := by
  unfold lo; rw [h0, h]; rfl
theorem lo_f : ∀ {n : Nat}, (lo q n = false ↔ ∀ i : Nat, i < n → q i = false)
  | 0 => ⟨fun _ i hi => absurd hi (Nat.not_lt_zero _), fun _ => rfl⟩
  | n + 1 => by
    unfold lo
    rw [Bool.or_eq_false_iff, lo_f]
    constructor
    · intro h i hi
      by_cases he : i = n
      · subst he; exact h.2
      · exact h.1 i (by omega)
    · exact fun h => ⟨fun i hi => h i (by omega), h n (by omega)⟩
theorem lo_ext {q' : Int → Bool} : ∀ {n : Nat}, (∀ i : Nat, i < n → q i = q' i) → lo q n = lo q' n
  | 0, _ => rfl
  | n + 1, h => by
    unfold lo
    rw [lo_ext (fun i hi => h i (Nat.lt_succ_of_lt hi)), h n (Nat.lt_succ_self n)]
theorem la_ext {q' : Int → Bool} : ∀ {n : Nat}, (∀ i : Nat, i < n → q i = q' i) → la q n = la q' n
  | 0, _ => rfl
  | n + 1, h => by
    unfold la
    rw [la_ext (fun i hi => h i (Nat.lt_succ_of_lt hi)), h n (Nat.lt_succ_self n)]
theorem la_s {i : Nat} (h0 : la q i = true) (h : q i = true) : la q (i + 1) = true := by
  unfold la; rw [h0, h]; rfl
end LOOPS
/-- a text: how many characters, and which -/
abbrev xt : Type := Nat × (Int → Int)
def xn (x : xt) : Int := (px x.2 x.1).1
def xk (x : xt) (p : Int) : Int := px_kd (px x.2 x.1) p
def xz (x : xt) (p : Int) : Int := px_sz (px x.2 x.1) p
def xs (x : xt) (p : Int) : Int := px_st (px x.2 x.1) x.1 p
def xv (x : xt) (p : Int) : Int := px_vl (px x.2 x.1) p
def xc (x : xt) (k : Int) : Int := px_ch x.1 x.2 k
def xw (x : xt) (p : Int) (y : xt) (q : Int) : Bool := px_w x.1 x.2 p y.1 y.2 q
def xok (x : xt) : Prop := px_ok x.2 x.1
def x0 : xt := (0, fun _ => 2)
theorem xn_b {x : xt} (h : xok x) : 0 ≤ xn x ∧ xn x ≤ 12 ∧ xn x ≤ x.1 ∧ x.1 ≤ 40 := by
  obtain ⟨h1, h2, h3, h4, _⟩ := px_okI h
  exact ⟨h1, h2, h3, h4⟩
theorem xk_b {x : xt} (h : xok x) (p : Int) : -1 ≤ xk x p ∧ xk x p ≤ 3 := px_kd_b (px_okI h) p
theorem xz_b {x : xt} (h : xok x) (p : Int) : 0 ≤ xz x p ∧ xz x p ≤ x.1 ∧ x.1 ≤ 40 := by
  have h1 := px_sz_b (px_okI h) p
  exact ⟨h1.1, h1.2, (px_okI h).2.2.2.1⟩
theorem xs_b {x : xt} (h : xok x) (p : Int) : 0 ≤ xs x p ∧ xs x p ≤ x.1 := px_st_b (px_okI h) p
theorem xv_b {x : xt} (h : xok x) (p : Int) : -9999 ≤ xv x p ∧ xv x p ≤ 999999 := px_vl_b (px_okI h) p
theorem xok0 : xok x0 := fun i hi => absurd hi (Nat.not_lt_zero _)
/-- the log: lines, templates; text and template of a line; sample and open words of a template -/
abbrev lg : Type := Nat × Nat × (Int → xt) × (Int → Int) × (Int → xt) × (Int → Int → Bool)
def gn (A : lg) : Nat := A.1
def gT (A : lg) : Nat := A.2.1
def gL (A : lg) (i : Int) : xt := A.2.2.1 i
def gP (A : lg) (i : Int) : Int := A.2.2.2.1 i
def gS (A : lg) (t : Int) : xt := A.2.2.2.2.1 t
def gO (A : lg) (t p : Int) : Bool := A.2.2.2.2.2 t p
def gl (A : lg) (i : Int) : xt := if 0 ≤ i ∧ i < gn A then gL A i else x0
def gt (A : lg) (i : Int) : Int := if 0 ≤ i ∧ i < gn A then gP A i else -9999
def gs (A : lg) (t : Int) : xt := if 0 ≤ t ∧ t < gT A then gS A t else x0
def go (A : lg) (t p : Int) : Bool := decide (0 ≤ t) && decide (t < gT A) && decide (0 ≤ p) && decide (p < 12) && gO A t p
def gk (A : lg) (t p : Int) : Int := if go A t p = true then 4 else xk (gs A t) p
def gf (A : lg) (x : xt) (t : Int) : Bool := decide (xn x = xn (gs A t)) && la (fun p => decide (xk x p = xk (gs A t) p) && (decide (xk x p = 3) || go A t p || xw x p (gs A t) p)) (xn x).toNat
def gff (A : lg) (x : xt) : Int := lf (fun t => gf A x t) (gT A)
def gtf (A : lg) (x : xt) : Int := if 24 ≤ gn A then -9999 else if gff A x = -9999 ∧ gT A < 12 then gT A else gff A x
/-- bounds that always hold -/
def gB (A : lg) : Prop := gn A ≤ 24 ∧ gT A ≤ 12 ∧ (∀ i : Int, 0 ≤ i → i < gn A → 0 ≤ gP A i ∧ gP A i ≤ 12 ∧ xok (gL A i)) ∧ ∀ t : Int, 0 ≤ t → t < gT A → xok (gS A t)
theorem gl_ok {A : lg} (h : gB A) (i : Int) : xok (gl A i) := by
  unfold gl; split
  · exact (h.2.2.1 i (by omega) (by omega)).2.2
  · exact xok0
theorem gs_ok {A : lg} (h : gB A) (t : Int) : xok (gs A t) := by
  unfold gs; split
  · exact h.2.2.2 t (by omega) (by omega)
  · exact xok0
theorem gt_b {A : lg} (h : gB A) (i : Int) : -9999 ≤ gt A i ∧ gt A i ≤ 12 := by
  unfold gt; split
  · have := h.2.2.1 i (by omega) (by omega); omega
  · omega
theorem gk_b {A : lg} (h : gB A) (t p : Int) : -1 ≤ gk A t p ∧ gk A t p ≤ 4 := by
  unfold gk; split
  · omega
  · have := xk_b (gs_ok h t) p; omega
theorem gff_b (A : lg) (x : xt) : -9999 ≤ gff A x ∧ gff A x < gT A ∧ (gff A x < 0 → gff A x = -9999) := lf_b _
theorem gtf_b {A : lg} (h : gB A) (x : xt) : -9999 ≤ gtf A x ∧ gtf A x ≤ gT A ∧ gtf A x < 12 ∧ (gtf A x < 0 → gtf A x = -9999) := by
  have h1 := gff_b A x
  have h2 := h.2.1
  unfold gtf
  (repeat' split) <;> omega
/-- where lines lie that states may hold -/
def mv_out (l : Int) : Prop := 0 ≤ l ∧ (l ≤ 159 ∨ 277 ≤ l)
/-- a line that holds the text x; the text's place -1 names the line -/
def LnX (h : mv_H) (l : Int) (x : xt) : Prop := (mv_out l ∧ x.2 (-1) = l) ∧ LnA h l x.1 x.2
def StW (h : mv_H) (s : Int) : Prop := 165 ≤ s ∧ s ≤ 258 ∧ (h s).1 = 2 ∧ (h s).2.2 0 = 2 ∧ (h s).2.2 1 = s + 1 ∧ (h s).2.2 2 = s + 2 ∧ (h s).2.2 3 = s + 3 ∧ (h s).2.2 4 = s + 4 ∧
  ((h (s + 1)).1 = 14 ∧ (h (s + 1)).2.1 = 24) ∧ ((h (s + 2)).1 = 10 ∧ (h (s + 2)).2.1 = 24) ∧ ((h (s + 3)).1 = 14 ∧ (h (s + 3)).2.1 = 12) ∧ ((h (s + 4)).1 = 10 ∧ (h (s + 4)).2.1 = 12) ∧ LnX h 2 x0
/-- the open words of a template as a number -/
def mv_ows (w : Int) (o : Int → Bool) : Prop := 0 ≤ w ∧ w < 4096 ∧ ∀ p : Int, 0 ≤ p → p < 12 → (w / 2 ^ p.toNat % (1 + 1) = 0 ↔ o p = false)
def StA (h : mv_H) (s : Int) (A : lg) : Prop := StW h s ∧ gB A ∧ (h s).2.2 5 = gn A ∧ (h s).2.2 6 = gT A ∧
  (∀ i : Int, 0 ≤ i → i < gn A → LnX h ((h (s + 1)).2.2 i) (gL A i)) ∧ (∀ i : Int, 0 ≤ i → i < gn A → (h (s + 2)).2.2 i = gP A i) ∧
  (∀ t : Int, 0 ≤ t → t < gT A → LnX h ((h (s + 3)).2.2 t) (gS A t)) ∧ (∀ t : Int, 0 ≤ t → t < gT A → mv_ows ((h (s + 4)).2.2 t) (gO A t))
def lrf (h : mv_H) (s : Int) (A : lg) (i : Int) : Int := if 0 ≤ i ∧ i < gn A then (h (s + 1)).2.2 i else 2
def srf (h : mv_H) (s : Int) (A : lg) (t : Int) : Int := if 0 ≤ t ∧ t < gT A then (h (s + 3)).2.2 t else 2
theorem StA.lr {h : mv_H} {s : Int} {A : lg} (hs : StA h s A) (i : Int) : LnX h (lrf h s A i) (gl A i) := by
  unfold lrf gl; split
  · exact hs.2.2.2.2.1 i (by omega) (by omega)
  · exact hs.1.2.2.2.2.2.2.2.2.2.2.2.2
theorem StA.sr {h : mv_H} {s : Int} {A : lg} (hs : StA h s A) (t : Int) : LnX h (srf h s A t) (gs A t) := by
  unfold srf gs; split
  · exact hs.2.2.2.2.2.2.1 t (by omega) (by omega)
  · exact hs.1.2.2.2.2.2.2.2.2.2.2.2.2
theorem LnX.kept {h h' : mv_H} {l : Int} {x : xt} (hl : LnX h l x) (hk : ∀ b : Int, l ≤ b → b ≤ l + 5 → h' b = h b) : LnX h' l x := ⟨hl.1, hl.2.kept hk⟩
/-- nothing but the state s has changed -/
def mv_frm (h h' : mv_H) (s : Int) : Prop := ∀ b : Int, (b < s ∨ s + 4 < b) → h' b = h b
theorem LnX.fr {h h' : mv_H} {l s : Int} {x : xt} (hl : LnX h l x) (h1 : 165 ≤ s) (h2 : s ≤ 258) (hk : mv_frm h h' s) : LnX h' l x :=
  hl.kept (fun b h3 h4 => hk b (by have := hl.1.1.2; omega))
section XT
variable {sc : Int × (Int → Int)} {c : mv_C} {h : mv_H} {l l2 : Int} {x y : xt}
theorem LnX.n {h : mv_H} {l : Int} {x : xt} (hl : LnX h l x) : (h l).2.2 6 = xn x := hl.2.2.2.1
theorem LnX.ok {h : mv_H} {l : Int} {x : xt} (hl : LnX h l x) : xok x := hl.2.2.2.2.1
theorem LnX.tag {h : mv_H} {l : Int} {x : xt} (hl : LnX h l x) : (h l).1 = 1 := hl.2.1.2.1
theorem LnX.len {h : mv_H} {l : Int} {x : xt} (hl : LnX h l x) : (h l).2.2 5 = x.1 := hl.2.2.1
theorem LnX.pos {h : mv_H} {l : Int} {x : xt} (hl : LnX h l x) : 0 ≤ l := hl.1.1.1
theorem x_kindAt (hl : LnX h l x) (p : Int) (hp : mv_i p) : mv_Cl sc q_Line_kindAt [(2, l), (0, p)] c h (mv_Rd (0, xk x p) c h) := c_kindAt hl.2 p hp
theorem x_sizeAt (hl : LnX h l x) (p : Int) (hp : mv_i p) : mv_Cl sc q_Line_sizeAt [(2, l), (0, p)] c h (mv_Rd (0, xz x p) c h) := c_sizeAt hl.2 p hp
theorem x_startAt (hl : LnX h l x) (p : Int) (hp : mv_i p) : mv_Cl sc q_Line_startAt [(2, l), (0, p)] c h (mv_Rd (0, xs x p) c h) := c_startAt hl.2 p hp
theorem x_valueAt (hl : LnX h l x) (p : Int) (hp : mv_i p) : mv_Cl sc q_Line_valueAt [(2, l), (0, p)] c h (mv_Rd (0, xv x p) c h) := c_valueAt hl.2 p hp
theorem x_characterAt (hl : LnX h l x) (p : Int) (hp : mv_i p) : mv_Cl sc q_Line_characterAt [(2, l), (0, p)] c h (mv_Rd (0, xc x p) c h) := c_characterAt hl.2 p hp
theorem x_written (hl : LnX h l x) (hl2 : LnX h l2 y) (p q : Int) (hp : mv_i p) (hq : mv_i q) : mv_Cl sc q_Line_isWrittenLike [(2, l), (0, p), (2, l2), (0, q)] c h (mv_Rd (0, mv_bo (xw x p y q)) c h) := c_isWrittenLike hl.2 hl2.2 p q hp hq
end XT
