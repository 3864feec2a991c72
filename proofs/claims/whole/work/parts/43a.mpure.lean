/-! the reference: pure facts on lines that fit (written by wip/whole/m43.py) -/
def mv_Ms (h : mv_H) (v : mvt) (x : Int) (c : mv_C) : mv_R → mv_C → mv_H → Prop := fun r c' h' => r = (0, x) ∧ c' = c ∧ ∃ w, h' = mH h w ∧ ms v w
theorem Ms_of {sc : Int × (Int → Int)} {y pc : Nat} {ls st : List mv_V} {c : mv_C} {h : mv_H} {u v : mvt} {x : Int} (hE : mv_Ev sc y pc ls st c (mH h v) (mv_Rd (0, x) c (mH h v))) (hm : ms u v) : mv_Ev sc y pc ls st c (mH h v) (mv_Ms h u x c) :=
  hE.mono (fun r c' h' q => by obtain ⟨rfl, rfl, rfl⟩ := q; exact ⟨rfl, rfl, v, rfl, hm⟩)
theorem Ms_tr {sc : Int × (Int → Int)} {y pc : Nat} {ls st : List mv_V} {c : mv_C} {h hh : mv_H} {u v : mvt} {x : Int} (hE : mv_Ev sc y pc ls st c hh (mv_Ms h v x c)) (hm : ms u v) : mv_Ev sc y pc ls st c hh (mv_Ms h u x c) :=
  hE.mono (fun r c' h' q => by obtain ⟨rfl, rfl, w, rfl, hw⟩ := q; exact ⟨rfl, rfl, w, rfl, ms_t hm hw⟩)
theorem px_e_iff {f g : Int → Int} {s u : Int} : ∀ {k : Nat}, px_e f g s u k = true ↔ ∀ j : Nat, j < k → f (s + j) = g (u + j)
  | 0 => ⟨fun _ j hj => absurd hj (Nat.not_lt_zero _), fun _ => rfl⟩
  | k + 1 => by
    show (px_e f g s u k && decide (f (s + k) = g (u + k))) = true ↔ _
    rw [Bool.and_eq_true, decide_eq_true_eq, px_e_iff]
    constructor
    · intro ⟨h1, h2⟩ j hj
      by_cases hk : j = k
      · rw [hk]; exact h2
      · exact h1 j (by omega)
    · intro h1
      exact ⟨fun j hj => h1 j (by omega), h1 k (by omega)⟩
section XW
variable {x y z : xt} {p q r : Int}
theorem xw_iff : xw x p y q = true ↔ (0 ≤ p ∧ p < xn x ∧ 0 ≤ q ∧ q < xn y) ∧ xz x p = xz y q ∧ ∀ j : Nat, (j : Int) < xz x p → x.2 (xs x p + j) = y.2 (xs y q + j) := by
  by_cases h : 0 ≤ p ∧ p < xn x ∧ 0 ≤ q ∧ q < xn y
  · rw [xw_p h.1 h.2.1 h.2.2.1 h.2.2.2, Bool.and_eq_true, decide_eq_true_eq, px_e_iff]
    constructor
    · intro ⟨h1, h2⟩
      exact ⟨h, h1, fun j hj => h2 j (by omega)⟩
    · intro ⟨_, h1, h2⟩
      exact ⟨h1, fun j hj => h2 j (by omega)⟩
  · constructor
    · intro h1
      unfold xw px_w at h1
      simp only [Bool.and_eq_true, decide_eq_true_eq] at h1
      exact absurd ⟨h1.1.1.1.1.1, h1.1.1.1.1.2, h1.1.1.1.2, h1.1.1.2⟩ h
    · intro h1; exact absurd h1.1 h
theorem xw_sym (h : xw x p y q = true) : xw y q x p = true := by
  rw [xw_iff] at h ⊢
  obtain ⟨⟨a1, a2, a3, a4⟩, b, d⟩ := h
  exact ⟨⟨a3, a4, a1, a2⟩, b.symm, fun j hj => (d j (by omega)).symm⟩
theorem xw_tr (h : xw x p y q = true) (h2 : xw y q z r = true) : xw x p z r = true := by
  rw [xw_iff] at h h2 ⊢
  obtain ⟨⟨a1, a2, a3, a4⟩, b, d⟩ := h
  obtain ⟨⟨e1, e2, e3, e4⟩, f, g⟩ := h2
  exact ⟨⟨a1, a2, e3, e4⟩, b.trans f, fun j hj => (d j hj).trans (g j (by omega))⟩
theorem xw_cl (h : xw y q z r = true) : xw x p y q = xw x p z r := by
  cases h1 : xw x p z r with
  | true => exact xw_tr h1 (xw_sym h)
  | false =>
    cases h2 : xw x p y q with
    | false => rfl
    | true => rw [xw_tr h2 h] at h1; cases h1
theorem xw_cr (h : xw y q z r = true) : xw y q x p = xw z r x p := by
  cases h1 : xw z r x p with
  | true => exact xw_tr h h1
  | false =>
    cases h2 : xw y q x p with
    | false => rfl
    | true => rw [xw_tr (xw_sym h) h2] at h1; cases h1
theorem xw_z (h : xw x p y q = true) : xz x p = xz y q := (xw_iff.mp h).2.1
end XW
theorem gf_iff {A : lg} {x : xt} {t : Int} : gf A x t = true ↔ xn x = xn (gs A t) ∧ ∀ p : Nat, (p : Int) < xn x → xk x p = xk (gs A t) p ∧ (xk x p = 3 ∨ go A t p = true ∨ xw x p (gs A t) p = true) := by
  unfold gf
  rw [Bool.and_eq_true, decide_eq_true_eq, la_t]
  constructor
  · intro ⟨h1, h2⟩
    refine ⟨h1, fun p hp => ?_⟩
    have := h2 p (by omega)
    simp only [Bool.and_eq_true, Bool.or_eq_true, decide_eq_true_eq] at this
    exact ⟨this.1, by rcases this.2 with (h | h) | h; exact Or.inl h; exact Or.inr (Or.inl h); exact Or.inr (Or.inr h)⟩
  · intro ⟨h1, h2⟩
    refine ⟨h1, fun p hp => ?_⟩
    have := h2 p (by omega)
    simp only [Bool.and_eq_true, Bool.or_eq_true, decide_eq_true_eq]
    exact ⟨this.1, by rcases this.2 with h | h | h; exact Or.inl (Or.inl h); exact Or.inl (Or.inr h); exact Or.inr h⟩
section GI
variable {A : lg} {t i p : Int}
theorem gs_S (h0 : 0 ≤ t) (h1 : t < gT A) : gs A t = gS A t := if_pos ⟨h0, h1⟩
theorem gl_L (h0 : 0 ≤ i) (h1 : i < gn A) : gl A i = gL A i := if_pos ⟨h0, h1⟩
theorem gt_P (h0 : 0 ≤ i) (h1 : i < gn A) : gt A i = gP A i := if_pos ⟨h0, h1⟩
theorem go_k (h : go A t p = true) : gk A t p = 4 := if_pos h
theorem go_n (h : go A t p = false) : gk A t p = xk (gs A t) p := if_neg (by rw [h]; decide)
theorem go_i (hI : gI A) (h : go A t p = true) : 0 ≤ t ∧ t < gT A ∧ 0 ≤ p ∧ p < 12 ∧ p < xn (gs A t) ∧ xk (gs A t) p = 0 := by
  unfold go at h
  simp only [Bool.and_eq_true, decide_eq_true_eq] at h
  obtain ⟨⟨⟨⟨a1, a2⟩, a3⟩, a4⟩, a5⟩ := h
  have q := (hI.2.2.2 t a1 a2).2.2 p a5 a3 a4
  rw [gs_S a1 a2]
  exact ⟨a1, a2, a3, a4, q⟩
theorem gSok (hI : gI A) (h0 : 0 ≤ t) (h1 : t < gT A) : xok (gs A t) := by rw [gs_S h0 h1]; exact (hI.2.2.2 t h0 h1).1
theorem gLok (hI : gI A) (h0 : 0 ≤ i) (h1 : i < gn A) : xok (gL A i) := (hI.2.2.1 i h0 h1).2.2.1
theorem gk_i (hI : gI A) (h0 : 0 ≤ t) (h1 : t < gT A) (h2 : 0 ≤ p) (h3 : p < xn (gs A t)) : 0 ≤ gk A t p ∧ gk A t p ≤ 4 := by
  have h4 := xp_b (gSok hI h0 h1) h2 h3
  cases h : go A t p with
  | true => rw [go_k h]; omega
  | false => rw [go_n h]; omega
/-- a line of the template t: its pieces -/
theorem gI_l (hI : gI A) (h0 : 0 ≤ i) (h1 : i < gn A) (ht : gP A i = t) : 0 ≤ t ∧ t < gT A ∧ xok (gL A i) ∧ xn (gL A i) = xn (gs A t) ∧ ∀ p : Int, 0 ≤ p → p < xn (gs A t) → xk (gL A i) p = xk (gs A t) p ∧ (xk (gL A i) p = 3 ∨ go A t p = true ∨ xw (gL A i) p (gs A t) p = true) := by
  obtain ⟨a1, a2, a3, a4⟩ := hI.2.2.1 i h0 h1
  rw [ht] at a1 a2 a4
  obtain ⟨b1, b2⟩ := gf_iff.mp a4
  refine ⟨a1, a2, a3, b1, fun p p0 p1 => ?_⟩
  have := b2 p.toNat (by omega)
  rw [show ((p.toNat : Nat) : Int) = p from by omega] at this
  exact this
theorem gI_k3 (hI : gI A) (h0 : 0 ≤ i) (h1 : i < gn A) (ht : gP A i = t) (hp : 0 ≤ p) (hq : p < xn (gs A t)) : (gk A t p = 3 ↔ xk (gL A i) p = 3) ∧ (gk A t p = 4 → xk (gL A i) p = 0) ∧ (gk A t p < 3 → xk (gL A i) p = gk A t p ∧ xw (gL A i) p (gs A t) p = true) := by
  obtain ⟨a1, a2, a3, a4, a5⟩ := gI_l hI h0 h1 ht
  obtain ⟨b1, b2⟩ := a5 p hp hq
  have b3 := xp_b (gSok hI a1 a2) hp hq
  cases hg : go A t p with
  | true =>
    have := go_i hI hg
    rw [go_k hg]
    omega
  | false =>
    rw [go_n hg]
    refine ⟨by omega, by omega, fun h => ⟨b1, ?_⟩⟩
    rcases b2 with b2 | b2 | b2
    · omega
    · rw [b2] at hg; cases hg
    · exact b2
theorem glo_p (A : lg) (t i : Int) : glo A t i = -9999 ∨ (0 ≤ glo A t i ∧ glo A t i < i ∧ glo A t i < gn A ∧ gP A (glo A t i) = t ∧ ∀ j : Int, glo A t i < j → j < i → j < gn A → gP A j ≠ t) := by
  by_cases h : glo A t i = -9999
  · exact Or.inl h
  · obtain ⟨k, k1, k2, k3, k4⟩ := ll_some h
    have e : glo A t i = k := k2
    rw [e]
    simp only [Bool.and_eq_true, decide_eq_true_eq] at k3
    refine Or.inr ⟨by omega, k3.1, by omega, k3.2, fun j j0 j1 j2 hj => ?_⟩
    have := k4 j.toNat (by omega) (by omega)
    rw [show ((j.toNat : Nat) : Int) = j from by omega, decide_eq_true j1, decide_eq_true hj] at this
    cases this
theorem glo_n {A : lg} {t i : Int} (h : glo A t i = -9999) : ∀ j : Int, 0 ≤ j → j < i → j < gn A → gP A j ≠ t := by
  intro j j0 j1 j2 hj
  have := ll_none h j.toNat (by omega)
  rw [show ((j.toNat : Nat) : Int) = j from by omega, decide_eq_true j1, decide_eq_true hj] at this
  cases this
end GI
/-- how the reference compares a piece with that of a template, whose first line is y -/
def mal (A : lg) (x y : xt) (t p : Int) : Bool := if gk A t p = 3 then decide (xk x p = 3) else if gk A t p = 4 then decide (xk x p = 0) else decide (xk x p = gk A t p) && xw x p y p
theorem mal_eq {A : lg} {x : xt} {t i p : Int} (hI : gI A) (h0 : 0 ≤ i) (h1 : i < gn A) (ht : gP A i = t) (hp : 0 ≤ p) (hq : p < xn (gs A t)) : mal A x (gL A i) t p = (decide (xk x p = xk (gs A t) p) && (decide (xk x p = 3) || go A t p || xw x p (gs A t) p)) := by
  obtain ⟨c1, c2, c3⟩ := gI_k3 hI h0 h1 ht hp hq
  obtain ⟨a1, a2, -, -, -⟩ := gI_l hI h0 h1 ht
  have b3 := xp_b (gSok hI a1 a2) hp hq
  unfold mal
  cases hg : go A t p with
  | true =>
    have := go_i hI hg
    rw [go_k hg, if_neg (by decide), if_pos rfl, this.2.2.2.2.2]
    cases decide (xk x p = 3) <;> simp
  | false =>
    rw [go_n hg] at c3 ⊢
    by_cases h3 : xk (gs A t) p = 3
    · rw [if_pos h3, h3]
      cases decide (xk x p = 3) <;> rfl
    · rw [if_neg h3, if_neg (by omega), xw_cl (c3 (by omega)).2]
      by_cases h4 : xk x p = xk (gs A t) p
      · rw [decide_eq_true h4, decide_eq_false (by omega)]; rfl
      · rw [decide_eq_false h4]; rfl
theorem gf_mal {A : lg} {x : xt} {t i : Int} (hI : gI A) (h0 : 0 ≤ i) (h1 : i < gn A) (ht : gP A i = t) (hn : xn x = xn (gs A t)) : gf A x t = la (fun p => mal A x (gL A i) t p) (xn x).toNat := by
  unfold gf
  rw [decide_eq_true hn]
  show la _ _ = _
  exact la_ext (fun p hp => (mal_eq hI h0 h1 ht (by omega) (by omega)).symm)
