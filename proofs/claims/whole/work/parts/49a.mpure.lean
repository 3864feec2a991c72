/-! the reference: learning, taking anew (written by wip/whole/m49.py) -/
section LE
variable {A B : lg} {R R' : Int → Int} {x : xt} {t u s i p q : Int}
theorem gk_w (hI : gI A) (h0 : 0 ≤ t) (h1 : t < gT A) : (gk A t p = 0 ∨ gk A t p = 4) ↔ xk (gs A t) p = 0 := by
  cases hg : go A t p with
  | true => have := go_i hI hg; rw [go_k hg]; omega
  | false =>
    rw [go_n hg]
    have h4 : xk (gs A t) p ≤ 3 := (xk_b (gSok hI h0 h1) p).2
    omega
theorem gal_m (hI : gI A) (h0 : 0 ≤ t) (h1 : t < gT A) (h2 : 0 ≤ u) (h3 : u < gT A) (p0 : 0 ≤ p) (p1 : p < xn (gs A t)) (p2 : p < xn (gs A u)) : gal A t u p = (decide (gk A t p = gk A u p) && (decide (3 ≤ gk A t p) || xw (gL A (gfi A t)) p (gL A (gfi A u)) p)) := by
  unfold gal
  have hk := gk_i hI h0 h1 p0 p1
  by_cases e : gk A t p = gk A u p
  · rw [decide_eq_true e]
    by_cases e3 : 3 ≤ gk A t p
    · have e4 : (decide (gk A t p = 3) || decide (gk A t p = 4)) = true := by rw [Bool.or_eq_true, decide_eq_true_eq, decide_eq_true_eq]; omega
      rw [decide_eq_true e3, e4]; rfl
    · have g1 := gfi_b hI h0 h1
      have g2 := gfi_b hI h2 h3
      have c1 := (gI_k3 hI g1.1 g1.2.1 g1.2.2.1 p0 p1).2.2 (by omega)
      have c2 := (gI_k3 hI g2.1 g2.2.1 g2.2.2.1 p0 p2).2.2 (by omega)
      rw [decide_eq_false e3, decide_eq_false (show ¬ gk A t p = 3 by omega), decide_eq_false (show ¬ gk A t p = 4 by omega), xw_cl c2.2, xw_cr c1.2]
      rfl
  · rw [decide_eq_false e]; rfl
theorem gdl_s {k : Nat} (h : gdl A t u k ≠ -9999) : gdl A t u (k + 1) = if gal A t u k = true then gdl A t u k else if gdl A t u k ≠ -1 ∨ xk (gs A t) k ≠ 0 ∨ xk (gs A u) k ≠ 0 then -9999 else (k : Int) := by
  show (if gdl A t u k = -9999 then (-9999 : Int) else _) = _
  rw [if_neg h]
theorem gdl_sp : ∀ {n : Nat}, gdl A t u n ≠ -9999 → ∀ k : Nat, k < n → ((k : Int) ≠ gdl A t u n → gal A t u k = true) ∧ ((k : Int) = gdl A t u n → xk (gs A t) k = 0 ∧ xk (gs A u) k = 0)
  | 0, _, k, hk => absurd hk (Nat.not_lt_zero _)
  | n + 1, h, k, hk => by
    have h' : gdl A t u n ≠ -9999 := fun e => h (gdl_stop e (n + 1) (Nat.le_succ n))
    have ih := gdl_sp h'
    have hb := gdl_b (A := A) (t := t) (u := u) n
    have e := gdl_s h'
    by_cases hg : gal A t u n = true
    · rw [if_pos hg] at e
      rw [e]
      by_cases hkn : k = n
      · subst hkn; exact ⟨fun _ => hg, fun e9 => by omega⟩
      · exact ih k (by omega)
    · rw [if_neg hg] at e
      by_cases hc : gdl A t u n ≠ -1 ∨ xk (gs A t) n ≠ 0 ∨ xk (gs A u) n ≠ 0
      · rw [if_pos hc] at e; exact absurd e h
      · rw [if_neg hc] at e
        rw [e]
        by_cases hkn : k = n
        · subst hkn; exact ⟨fun e9 => absurd rfl e9, fun _ => by omega⟩
        · exact ⟨fun _ => (ih k (by omega)).1 (by omega), fun e9 => by omega⟩
theorem god_sp (h : god A t u ≠ -9999) : xn (gs A t) = xn (gs A u) ∧ god A t u < xn (gs A t) ∧ (∀ p : Int, 0 ≤ p → p < xn (gs A t) → (p ≠ god A t u → gal A t u p = true) ∧ (p = god A t u → xk (gs A t) p = 0 ∧ xk (gs A u) p = 0)) ∨ (xn (gs A t) < 0) := by
  unfold god at h ⊢
  by_cases e : xn (gs A t) = xn (gs A u)
  · rw [if_pos e] at h ⊢
    have hb := gdl_b (A := A) (t := t) (u := u) (xn (gs A t)).toNat
    by_cases h9 : xn (gs A t) < 0
    · exact Or.inr h9
    · refine Or.inl ⟨e, by omega, fun p p0 p1 => ?_⟩
      have := gdl_sp h p.toNat (by omega)
      rw [show ((p.toNat : Nat) : Int) = p from by omega] at this
      exact this
  · rw [if_neg e] at h; exact absurd rfl h
-- opening
theorem gop_e (h0 : 0 ≤ t) (h1 : t < gT A) (h2 : 0 ≤ q) (h3 : q < 12) : gopen A t q = (gn A, gT A, A.2.2.1, A.2.2.2.1, A.2.2.2.2.1, gu A.2.2.2.2.2 t (fun r => if r = q then true else gO A t r)) := if_pos ⟨h0, h1, h2, h3⟩
theorem gop_o (h : ¬ (0 ≤ t ∧ t < gT A ∧ 0 ≤ q ∧ q < 12)) : gopen A t q = A := if_neg h
theorem gop_same : gn (gopen A t q) = gn A ∧ gT (gopen A t q) = gT A ∧ (∀ i, gL (gopen A t q) i = gL A i) ∧ (∀ i, gP (gopen A t q) i = gP A i) ∧ (∀ s, gS (gopen A t q) s = gS A s) ∧ ∀ s, gs (gopen A t q) s = gs A s := by
  by_cases h : 0 ≤ t ∧ t < gT A ∧ 0 ≤ q ∧ q < 12
  · rw [gop_e h.1 h.2.1 h.2.2.1 h.2.2.2]; exact ⟨rfl, rfl, fun _ => rfl, fun _ => rfl, fun _ => rfl, fun _ => rfl⟩
  · rw [gop_o h]; exact ⟨rfl, rfl, fun _ => rfl, fun _ => rfl, fun _ => rfl, fun _ => rfl⟩
theorem gop_O (h0 : 0 ≤ t) (h1 : t < gT A) (h2 : 0 ≤ q) (h3 : q < 12) : gO (gopen A t q) s p = if s = t ∧ p = q then true else gO A s p := by
  rw [gop_e h0 h1 h2 h3]
  show gu A.2.2.2.2.2 t _ s p = _
  by_cases hs : s = t
  · subst hs
    rw [gu_s]
    by_cases hp : p = q
    · rw [if_pos hp, if_pos ⟨rfl, hp⟩]
    · rw [if_neg hp, if_neg (fun e => hp e.2)]
  · rw [gu_n hs, if_neg (fun e => hs e.1)]; rfl
theorem gop_go (h0 : 0 ≤ t) (h1 : t < gT A) (h2 : 0 ≤ q) (h3 : q < 12) : go (gopen A t q) s p = if s = t ∧ p = q then true else go A s p := by
  unfold go
  rw [gop_same.2.1, gop_O h0 h1 h2 h3]
  by_cases h : s = t ∧ p = q
  · rw [if_pos h, if_pos h, h.1, h.2, decide_eq_true h0, decide_eq_true h1, decide_eq_true h2, decide_eq_true h3]; rfl
  · rw [if_neg h, if_neg h]
theorem gop_gk (h0 : 0 ≤ t) (h1 : t < gT A) (h2 : 0 ≤ q) (h3 : q < 12) : gk (gopen A t q) s p = if s = t ∧ p = q then 4 else gk A s p := by
  unfold gk
  rw [gop_go h0 h1 h2 h3, gop_same.2.2.2.2.2]
  by_cases h : s = t ∧ p = q
  · rw [if_pos h, if_pos h, if_pos rfl]
  · rw [if_neg h, if_neg h]
theorem gop_gf (hI : gI A) (h0 : 0 ≤ t) (h1 : t < gT A) (h2 : 0 ≤ q) (h3 : q < 12) (hf : gf A x s = true) : gf (gopen A t q) x s = true := by
  rw [gf_iff, gop_same.2.2.2.2.2]
  obtain ⟨a1, a2⟩ := gf_iff.mp hf
  refine ⟨a1, fun p hp => ?_⟩
  obtain ⟨b1, b2⟩ := a2 p hp
  refine ⟨b1, ?_⟩
  rcases b2 with b2 | b2 | b2
  · exact Or.inl b2
  · refine Or.inr (Or.inl ?_)
    rw [gop_go h0 h1 h2 h3]; split
    · rfl
    · exact b2
  · exact Or.inr (Or.inr b2)
theorem gI_open (hI : gI A) (h0 : 0 ≤ t) (h1 : t < gT A) (h2 : 0 ≤ q) (h3 : q < xn (gs A t)) (hk : xk (gs A t) q = 0) : gI (gopen A t q) := by
  have hb := xn_b (gSok hI h0 h1)
  have h4 : q < 12 := by omega
  obtain ⟨e1, e2, e3, e4, e5, e6⟩ := gop_same (A := A) (t := t) (q := q)
  refine ⟨by rw [e1]; exact hI.1, by rw [e2]; exact hI.2.1, fun i i0 i1 => ?_, fun s s0 s1 => ?_⟩
  · rw [e1] at i1
    rw [e3, e4, e2]
    obtain ⟨a1, a2, a3, a4⟩ := hI.2.2.1 i i0 i1
    exact ⟨a1, a2, a3, gop_gf hI h0 h1 h2 h4 a4⟩
  · rw [e2] at s1
    rw [e5]
    obtain ⟨a1, ⟨i, i0, i1, i2⟩, a3⟩ := hI.2.2.2 s s0 s1
    refine ⟨a1, ⟨i, i0, by rw [e1]; exact i1, by rw [e4]; exact i2⟩, fun p hp p0 p1 => ?_⟩
    rw [gop_O h0 h1 h2 h4] at hp
    by_cases h : s = t ∧ p = q
    · rw [h.1, h.2, ← gs_S h0 h1]; exact ⟨h3, hk⟩
    · rw [if_neg h] at hp; exact a3 p hp p0 p1
theorem Rw_open (hR : Rw R A) (hI : gI A) (h0 : 0 ≤ t) (h1 : t < gT A) (h2 : 0 ≤ q) (h3 : q < xn (gs A t)) (e4 : R' (1052 + 13 * t + 1 + q) = 4) (eo : ∀ r : Int, r ≠ 1052 + 13 * t + 1 + q → R' r = R r) : Rw R' (gopen A t q) := by
  have hb := xn_b (gSok hI h0 h1)
  have h4 : q < 12 := by omega
  have b1 := hI.1
  obtain ⟨e1, e2, e3, e4', e5, e6⟩ := gop_same (A := A) (t := t) (q := q)
  refine ⟨by rw [e1, eo _ (by omega)]; exact hR.1, by rw [e2, eo _ (by omega)]; exact hR.2.1, fun i i0 i1 => ?_, fun s s0 s1 => ?_⟩
  · rw [e1] at i1
    rw [e3, e4']
    obtain ⟨q1, q2⟩ := hR.2.2.1 i i0 i1
    exact ⟨Rl_cg (gLok hI i0 i1) q1 (fun k k0 k1 _ => eo _ (by omega)), by rw [eo _ (by omega)]; exact q2⟩
  · rw [e2] at s1
    rw [e5]
    obtain ⟨r1, r2⟩ := hR.2.2.2 s s0 s1
    have hb2 := xn_b (hI.2.2.2 s s0 s1).1
    refine ⟨by rw [eo _ (by omega)]; exact r1, fun p p0 p1 => ?_⟩
    rw [gop_gk h0 h1 h2 h4]
    by_cases h : s = t ∧ p = q
    · rw [if_pos h, h.1, h.2]; exact e4
    · rw [if_neg h, eo _ (by omega)]; exact r2 p p0 p1
-- moving
theorem gJ_mv (hI : gI B) (h0 : 0 ≤ t) (h1 : t < gT B) (hut : u ≠ t) (hf : ∀ i : Int, 0 ≤ i → i < gn B → gP B i = u → gf B (gL B i) t = true) : gJ (gmv B u t) u := by
  have eP : ∀ i, gP (gmv B u t) i = if gP B i = u then t else gP B i := fun _ => rfl
  refine ⟨hI.1, hI.2.1, fun i i0 i1 => ?_, fun s s0 s1 => ?_⟩
  · obtain ⟨a1, a2, a3, a4⟩ := hI.2.2.1 i i0 i1
    rw [eP]
    by_cases h : gP B i = u
    · rw [if_pos h]; exact ⟨h0, h1, a3, hf i i0 i1 h⟩
    · rw [if_neg h]; exact ⟨a1, a2, a3, a4⟩
  · obtain ⟨a1, ⟨i, i0, i1, i2⟩, a3⟩ := hI.2.2.2 s s0 s1
    refine ⟨a1, ?_, a3⟩
    by_cases h : s = u
    · exact Or.inl h
    · exact Or.inr ⟨i, i0, i1, by rw [eP, if_neg (by omega)]; exact i2⟩
theorem Rw_mv (hR : Rw R B) (hI : gI B) (eo : ∀ r : Int, (∀ i : Int, 0 ≤ i → i < gn B → r ≠ 2 + 42 * i + 1) → R' r = R r) (et : ∀ i : Int, 0 ≤ i → i < gn B → R' (2 + 42 * i + 1) = if gP B i = u then t else gP B i) : Rw R' (gmv B u t) := by
  have b1 := hI.1
  refine ⟨(eo 0 (fun i _ _ => by omega)).trans hR.1, (eo 1 (fun i _ _ => by omega)).trans hR.2.1, fun i i0 i1 => ?_, fun s s0 s1 => ?_⟩
  · obtain ⟨q1, q2⟩ := hR.2.2.1 i i0 i1
    exact ⟨Rl_cg (gLok (A := B) hI i0 i1) q1 (fun k k0 k1 k2 => eo _ (fun j _ _ => by omega)), et i i0 i1⟩
  · obtain ⟨r1, r2⟩ := hR.2.2.2 s s0 s1
    have s1 : s < gT B := s1
    have hb2 := xn_b (hI.2.2.2 s s0 s1).1
    have eo' : ∀ r : Int, 1052 ≤ r → R' r = R r := fun r hr => eo r (fun i i0 (i1 : i < gn B) => by omega)
    exact ⟨by rw [eo' _ (by omega)]; exact r1, fun p p0 p1 => by rw [eo' _ (by omega)]; exact r2 p p0 p1⟩
/-- a learned pair: what is opened, the lines' moving -/
theorem gI_pair (hI : gI A) (h0 : 0 ≤ t) (h1 : t < u) (h2 : u < gT A) (hd : god A t u ≠ -9999) : gI (gopen A t (god A t u)) ∧ gJ (gmv (gopen A t (god A t u)) u t) u ∧ gI (gmove (gopen A t (god A t u)) u t) := by
  have ht : t < gT A := by omega
  have hbt := xn_b (gSok hI h0 ht)
  obtain ⟨c1, c2, c3⟩ : xn (gs A t) = xn (gs A u) ∧ god A t u < xn (gs A t) ∧ (∀ p : Int, 0 ≤ p → p < xn (gs A t) → (p ≠ god A t u → gal A t u p = true) ∧ (p = god A t u → xk (gs A t) p = 0 ∧ xk (gs A u) p = 0)) := by
    rcases god_sp hd with h | h
    · exact h
    · omega
  generalize hdd : god A t u = d at c2 c3 hd
  have hB : gI (gopen A t d) := by
    by_cases hdp : 0 ≤ d
    · exact gI_open hI h0 ht hdp c2 ((c3 d hdp c2).2 rfl).1
    · rw [gop_o (fun e => hdp e.2.2.1)]; exact hI
  obtain ⟨e1, e2, e3, e4, e5, e6⟩ := gop_same (A := A) (t := t) (q := d)
  have hJ : gJ (gmv (gopen A t d) u t) u := by
    refine gJ_mv hB h0 (by rw [e2]; exact ht) (by omega) (fun i i0 i1 hi => ?_)
    rw [e1] at i1
    rw [e4] at hi
    rw [e3, gf_iff, e6]
    obtain ⟨-, hu1, -, a4, a5⟩ := gI_l hI i0 i1 hi
    refine ⟨a4.trans c1.symm, fun p hp => ?_⟩
    have hp2 : (p : Int) < xn (gs A t) := by omega
    obtain ⟨b1, b2⟩ := a5 p (by omega) (by omega)
    obtain ⟨d1, d2⟩ := c3 p (by omega) hp2
    by_cases hpd : (p : Int) = d
    · have := d2 hpd
      refine ⟨by omega, Or.inr (Or.inl ?_)⟩
      rw [gop_go h0 ht (by omega) (by omega), if_pos ⟨rfl, hpd⟩]
    · have hg := d1 hpd
      unfold gal at hg
      simp only [Bool.and_eq_true, Bool.or_eq_true, decide_eq_true_eq] at hg
      obtain ⟨g1, g2⟩ := hg
      have gom : go A t p = true → go (gopen A t d) t p = true := fun h => by
        by_cases hdp : 0 ≤ d
        · rw [gop_go h0 ht hdp (by omega)]; split
          · rfl
          · exact h
        · rw [gop_o (fun e => hdp e.2.2.1)]; exact h
      cases hgt : go A t p with
      | true =>
        rw [go_k hgt] at g1
        have i1 := go_i hI hgt
        have i2 : go A u p = true := by
          cases hgu : go A u p with
          | true => rfl
          | false => rw [go_n hgu] at g1; have := (xk_b (gSok hI (by omega) h2) (p : Int)).2; omega
        have i3 := go_i hI i2
        exact ⟨by omega, Or.inr (Or.inl (gom hgt))⟩
      | false =>
        rw [go_n hgt] at g1 g2
        have hgu : go A u p = false := by
          cases hgu : go A u p with
          | false => rfl
          | true => rw [go_k hgu] at g1; have := (xk_b (gSok hI h0 ht) (p : Int)).2; omega
        rw [go_n hgu] at g1
        refine ⟨by omega, ?_⟩
        rcases b2 with b2 | b2 | b2
        · exact Or.inl b2
        · rw [hgu] at b2; cases b2
        · rcases g2 with (g2 | g2) | g2
          · exact Or.inl (by omega)
          · have := (xk_b (gSok hI h0 ht) (p : Int)).2; omega
          · exact Or.inr (Or.inr (xw_tr b2 (xw_sym g2)))
  refine ⟨hB, hJ, ?_⟩
  refine gI_dropT hJ (by omega) (by show u < gT (gopen A t d); rw [e2]; exact h2) (fun i i0 i1 hi => ?_)
  have hi : (if gP (gopen A t d) i = u then t else gP (gopen A t d) i) = u := hi
  split at hi <;> omega
theorem gI_gle (hI : gI A) : gI (gle A) := by
  rcases glt_b A with h | h
  · unfold gle; rw [if_pos h]; exact hI
  · unfold gle
    rw [if_neg (by omega)]
    exact (gI_pair hI h.1 h.2.1 h.2.2.1 h.2.2.2).2.2
theorem gle_T (h : glv A ≠ -9999) : gT (gle A) = gT A - 1 ∧ 2 ≤ gT A ∧ gn (gle A) = gn A := by
  have h' : glt A ≠ -9999 := fun e => h (glv_none.mpr e)
  rcases glt_b A with g | g
  · exact absurd g h'
  · unfold gle
    rw [if_neg h']
    obtain ⟨e1, e2, -⟩ := gop_same (A := A) (t := glt A) (q := god A (glt A) (glq A (glt A)))
    have e : gdropT (gmv (gopen A (glt A) (god A (glt A) (glq A (glt A)))) (glq A (glt A)) (glt A)) (glq A (glt A)) = _ := gdT_e (by omega) (by show glq A (glt A) < gT (gopen A _ _); rw [e2]; exact g.2.2.1)
    unfold gmove
    rw [e]
    exact ⟨by show gT (gopen A _ _) - 1 = _; rw [e2], by omega, e1⟩
theorem gI_gall : ∀ (m : Nat) {A : lg}, gI A → gI (gall A m)
  | 0, _, h => h
  | m + 1, A, h => by
    show gI (if glv A = -9999 then A else gall (gle A) m)
    split
    · exact h
    · exact gI_gall m (gI_gle h)
theorem gall_f {A : lg} (h : glv A = -9999) : ∀ m, gall A m = A
  | 0 => rfl
  | m + 1 => if_pos h
theorem gall_s {A : lg} (h : glv A ≠ -9999) (m : Nat) : gall A (m + 1) = gall (gle A) m := if_neg h
-- taking anew
theorem gtf_c {A : lg} {x : xt} : (gtf A x = -9999 → ¬ (gn A < 24 ∧ (gT A < 12 ∨ gff A x ≠ -9999))) ∧ (gtf A x ≠ -9999 → (gn A < 24 ∧ (gT A < 12 ∨ gff A x ≠ -9999)) ∧ gtf A x = gnw A x) := by
  have hb := gff_b A x
  have hg := gnw_b A x
  unfold gtf
  by_cases h1 : 24 ≤ gn A
  · rw [if_pos h1]; omega
  · rw [if_neg h1]
    by_cases h2 : gff A x = -9999 ∧ gT A < 12
    · rw [if_pos h2]; omega
    · rw [if_neg h2]; omega
theorem gput_w {A : lg} {x : xt} (h : gtf A x ≠ -9999) (hT : gT A ≤ 12) : gput A x (gtf A x) = gpu A x (gnw A x) := by
  obtain ⟨h1, h2⟩ := gtf_c.2 h
  have hg := gnw_b A x
  have hs := gff_b A x
  rw [h2]
  exact if_pos (by omega)
theorem gpu_T12 {A : lg} {x : xt} (h : gT A < 12 ∨ gff A x ≠ -9999) (hT : gT A ≤ 12) : gT (gpu A x (gnw A x)) ≤ 12 := by
  have hg := gnw_b A x
  have e := gpu_T (A := A) (x := x) (t := gnw A x)
  split at e <;> omega
theorem gI_0 : gI ge0 := ⟨by decide, by decide, fun i h0 h1 => by have h1 : i < 0 := h1; omega, fun t h0 h1 => by have h1 : t < 0 := h1; omega⟩
theorem gtk_I {A : lg} (hx : ∀ i : Int, xok (gl A i)) : ∀ (m : Nat), m ≤ 24 → gI (gtk A m).2 ∧ gT (gtk A m).2 ≤ 12 ∧ gn (gtk A m).2 ≤ m ∧ ((gtk A m).1 = true → gn (gtk A m).2 = m)
  | 0, _ => ⟨gI_0, Nat.zero_le _, Nat.le_refl _, fun _ => rfl⟩
  | m + 1, hm => by
    obtain ⟨i1, i2, i3, i4⟩ := gtk_I hx m (by omega)
    have e : gtk A (m + 1) = cond (gtk A m).1 (cond (decide (gtf (gtk A m).2 (gl A m) = -9999)) (false, (gtk A m).2) (true, gput (gtk A m).2 (gl A m) (gtf (gtk A m).2 (gl A m)))) (gtk A m) := rfl
    rw [e]
    cases hg : (gtk A m).1 with
    | false =>
      simp only [cond_false]
      exact ⟨i1, i2, by omega, fun h => by rw [hg] at h; cases h⟩
    | true =>
      simp only [cond_true]
      cases hd : decide (gtf (gtk A m).2 (gl A m) = -9999) with
      | true =>
        simp only [cond_true]
        exact ⟨i1, i2, by omega, fun h => by cases h⟩
      | false =>
        simp only [cond_false]
        have hd := of_decide_eq_false hd
        obtain ⟨c1, c2⟩ := gtf_c.2 hd
        have e := gput_w hd i2
        rw [e]
        have i4 := i4 hg
        exact ⟨gI_put i1 (hx m) (by omega) i2, gpu_T12 c1.2 i2, by rw [gpu_n]; omega, fun _ => by rw [gpu_n]; omega⟩
end LE
