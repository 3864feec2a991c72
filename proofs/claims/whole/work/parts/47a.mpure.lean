/-! the reference: logs that change (written by wip/whole/m47.py) -/
def gpu (A : lg) (x : xt) (t : Int) : lg := if t = gT A then (gn A + 1, gT A + 1, gu A.2.2.1 (gn A) x, gu A.2.2.2.1 (gn A) t, gu A.2.2.2.2.1 t x, gu A.2.2.2.2.2 t (fun _ => false)) else (gn A + 1, gT A, gu A.2.2.1 (gn A) x, gu A.2.2.2.1 (gn A) t, A.2.2.2.2.1, A.2.2.2.2.2)
def gnw (A : lg) (x : xt) : Int := if gff A x = -9999 then (gT A : Int) else gff A x
/-- gI, but that the template u may have no line -/
def gJ (A : lg) (u : Int) : Prop := gn A ≤ 25 ∧ gT A ≤ 13 ∧ (∀ i : Int, 0 ≤ i → i < gn A → 0 ≤ gP A i ∧ gP A i < gT A ∧ xok (gL A i) ∧ gf A (gL A i) (gP A i) = true) ∧
  ∀ t : Int, 0 ≤ t → t < gT A → xok (gS A t) ∧ (t = u ∨ ∃ i : Int, 0 ≤ i ∧ i < gn A ∧ gP A i = t) ∧ ∀ p : Int, gO A t p = true → 0 ≤ p → p < 12 → p < xn (gS A t) ∧ xk (gS A t) p = 0
/-- nothing but the pieces and the row a has changed -/
def mo (a : Int) (v w : mvt) : Prop := ∀ b : Int, b ≠ 272 → b ≠ 273 → b ≠ 274 → b ≠ a → w b = v b
theorem mo_r (a : Int) (v : mvt) : mo a v v := fun _ _ _ _ _ => rfl
theorem mo_m {a : Int} {v w : mvt} (h : ms v w) : mo a v w := fun b h1 h2 h3 _ => h b h1 h2 h3
theorem mo_t {a : Int} {u v w : mvt} (h1 : mo a u v) (h2 : mo a v w) : mo a u w := fun b a1 a2 a3 a4 => (h2 b a1 a2 a3 a4).trans (h1 b a1 a2 a3 a4)
theorem gJ_I {A : lg} {u : Int} (h : gI A) : gJ A u := ⟨h.1, h.2.1, h.2.2.1, fun t h0 h1 => ⟨(h.2.2.2 t h0 h1).1, Or.inr (h.2.2.2 t h0 h1).2.1, (h.2.2.2 t h0 h1).2.2⟩⟩
theorem xw_r {x : xt} {p : Int} (h0 : 0 ≤ p) (h1 : p < xn x) : xw x p x p = true := xw_iff.mpr ⟨⟨h0, h1, h0, h1⟩, rfl, fun _ _ => rfl⟩
section GQ
variable {A B : lg} {x : xt} {t s i : Int}
theorem gf_cg (h1 : gs B s = gs A t) (h2 : ∀ p, go B s p = go A t p) : gf B x s = gf A x t := by
  unfold gf
  rw [h1]
  have h3 : (fun p => decide (xk x p = xk (gs A t) p) && (decide (xk x p = 3) || go B s p || xw x p (gs A t) p)) = (fun p => decide (xk x p = xk (gs A t) p) && (decide (xk x p = 3) || go A t p || xw x p (gs A t) p)) := by
    funext p; rw [h2]
  rw [h3]
theorem gk_cg {p : Int} (h1 : gs B s = gs A t) (h2 : ∀ p, go B s p = go A t p) : gk B s p = gk A t p := by
  unfold gk
  rw [h1, h2]
theorem go_cg {p : Int} (h1 : 0 ≤ s) (h2 : s < gT B) (h3 : 0 ≤ t) (h4 : t < gT A) (h5 : gO B s = gO A t) : go B s p = go A t p := by
  unfold go
  rw [decide_eq_true h1, decide_eq_true h2, decide_eq_true h3, decide_eq_true h4, h5]
theorem gff_s (h : gff A x ≠ -9999) : 0 ≤ gff A x ∧ gff A x < gT A ∧ gf A x (gff A x) = true := by
  obtain ⟨i, i1, i2, i3, i4⟩ := lf_some (q := fun t => gf A x t) h
  have e : gff A x = i := i2
  rw [e]
  exact ⟨by omega, by omega, i3⟩
theorem gnw_b (A : lg) (x : xt) : 0 ≤ gnw A x ∧ gnw A x ≤ gT A ∧ (gff A x = -9999 → gnw A x = gT A) ∧ (gff A x ≠ -9999 → gnw A x = gff A x ∧ gnw A x < gT A) := by
  unfold gnw
  by_cases h : gff A x = -9999
  · rw [if_pos h]; omega
  · have := gff_s h
    rw [if_neg h]; omega
theorem gpu_1 (h : t = gT A) : gpu A x t = (gn A + 1, gT A + 1, gu A.2.2.1 (gn A) x, gu A.2.2.2.1 (gn A) t, gu A.2.2.2.2.1 t x, gu A.2.2.2.2.2 t (fun _ => false)) := if_pos h
theorem gpu_2 (h : t ≠ gT A) : gpu A x t = (gn A + 1, gT A, gu A.2.2.1 (gn A) x, gu A.2.2.2.1 (gn A) t, A.2.2.2.2.1, A.2.2.2.2.2) := if_neg h
theorem gpu_n : gn (gpu A x t) = gn A + 1 := by unfold gpu; split <;> rfl
theorem gpu_T : (gT (gpu A x t) : Int) = if t = gT A then (gT A : Int) + 1 else gT A := by unfold gpu; split <;> rfl
theorem gpu_L : gL (gpu A x t) i = if i = gn A then x else gL A i := by unfold gpu; split <;> rfl
theorem gpu_P : gP (gpu A x t) i = if i = gn A then t else gP A i := by unfold gpu; split <;> rfl
theorem gpu_S : gS (gpu A x t) s = if t = gT A ∧ s = gT A then x else gS A s := by
  unfold gpu
  by_cases h : t = gT A
  · rw [if_pos h]
    by_cases h2 : s = gT A
    · rw [if_pos ⟨h, h2⟩]; show gu _ t x s = x; rw [h2, ← h, gu_s]
    · rw [if_neg (fun q => h2 q.2)]; show gu _ t x s = _; rw [gu_n (by omega)]; rfl
  · rw [if_neg h, if_neg (fun q => h q.1)]; rfl
theorem gpu_O : gO (gpu A x t) s = if t = gT A ∧ s = gT A then (fun _ => false) else gO A s := by
  unfold gpu
  by_cases h : t = gT A
  · rw [if_pos h]
    by_cases h2 : s = gT A
    · rw [if_pos ⟨h, h2⟩]; show gu _ t _ s = _; rw [h2, ← h, gu_s]
    · rw [if_neg (fun q => h2 q.2)]; show gu _ t _ s = _; rw [gu_n (by omega)]; rfl
  · rw [if_neg h, if_neg (fun q => h q.1)]; rfl
theorem gpu_old (h0 : 0 ≤ s) (h1 : s < gT A) : gs (gpu A x t) s = gs A s ∧ ∀ p, go (gpu A x t) s p = go A s p := by
  have hT : s < gT (gpu A x t) := by rw [gpu_T]; split <;> omega
  refine ⟨?_, fun p => go_cg h0 hT h0 h1 ?_⟩
  · rw [gs_S h0 hT, gs_S h0 h1, gpu_S, if_neg (by omega)]
  · rw [gpu_O, if_neg (by omega)]
theorem gpu_new (h : t = gT A) : gs (gpu A x t) t = x ∧ ∀ p, go (gpu A x t) t p = false := by
  have hT : t < gT (gpu A x t) := by rw [gpu_T, if_pos h]; omega
  refine ⟨?_, fun p => ?_⟩
  · rw [gs_S (by omega) hT, gpu_S, if_pos ⟨h, h⟩]
  · unfold go; rw [gpu_O, if_pos ⟨h, h⟩]; exact Bool.and_false _
theorem gI_put (hI : gI A) (hx : xok x) (hn : gn A ≤ 24) (hT : gT A ≤ 12) : gI (gpu A x (gnw A x)) := by
  obtain ⟨n0, n1, n2, n3⟩ := gnw_b A x
  generalize ht : gnw A x = t at n0 n1 n2 n3
  have eT := gpu_T (A := A) (x := x) (t := t)
  have en := gpu_n (A := A) (x := x) (t := t)
  refine ⟨by omega, by (split at eT) <;> omega, fun i h0 h1 => ?_, fun s h0 h1 => ?_⟩
  · rw [gpu_P, gpu_L]
    by_cases hi : i = gn A
    · rw [if_pos hi, if_pos hi]
      refine ⟨n0, by (split at eT) <;> omega, hx, ?_⟩
      by_cases hg : gff A x = -9999
      · have e := n2 hg
        obtain ⟨q1, q2⟩ := gpu_new (A := A) (x := x) e
        rw [gf_iff, q1]
        exact ⟨rfl, fun p hp => ⟨rfl, Or.inr (Or.inr (xw_r (by omega) hp))⟩⟩
      · have e := n3 hg
        obtain ⟨q1, q2⟩ := gpu_old (A := A) (x := x) (t := t) n0 e.2
        rw [gf_cg q1 q2, e.1]
        exact (gff_s hg).2.2
    · rw [if_neg hi, if_neg hi]
      obtain ⟨a1, a2, a3, a4⟩ := hI.2.2.1 i h0 (by omega)
      obtain ⟨q1, q2⟩ := gpu_old (A := A) (x := x) (t := t) a1 a2
      exact ⟨a1, by (split at eT) <;> omega, a3, by rw [gf_cg q1 q2]; exact a4⟩
  · rw [gpu_S, gpu_O]
    by_cases hs : t = gT A ∧ s = gT A
    · rw [if_pos hs, if_pos hs]
      refine ⟨hx, ⟨gn A, by omega, by omega, ?_⟩, fun p hp => by cases hp⟩
      rw [gpu_P, if_pos rfl]; omega
    · rw [if_neg hs, if_neg hs]
      have hs2 : s < gT A := by (split at eT) <;> omega
      obtain ⟨a1, ⟨i, i0, i1, i2⟩, a3⟩ := hI.2.2.2 s h0 hs2
      refine ⟨a1, ⟨i, i0, by omega, ?_⟩, a3⟩
      rw [gpu_P, if_neg (by omega)]; exact i2
end GQ
section RW
variable {A : lg} {R R' : Int → Int} {x : xt} {t u : Int}
theorem Rl_cg {i : Int} (hx : xok x) (h : Rl R i x) (e : ∀ k : Int, 0 ≤ k → k < 42 → k ≠ 1 → R' (2 + 42 * i + k) = R (2 + 42 * i + k)) : Rl R' i x := by
  have b := xn_b hx
  refine ⟨?_, fun k h0 h1 => ?_⟩
  · have := e 0 (by omega) (by omega) (by omega)
    rw [Int.add_zero] at this
    rw [this]; exact h.1
  · have := e (2 + k) (by omega) (by omega) (by omega)
    rw [show 2 + 42 * i + (2 + k) = 2 + 42 * i + 2 + k from by omega] at this
    rw [this]; exact h.2 k h0 h1
theorem Rw_put (hR : Rw R A) (hI : gI A) (hx : xok x) (e0 : R' 0 = gn A + 1) (e1 : R' 1 = if gff A x = -9999 then (gT A : Int) + 1 else gT A)
    (el : ∀ i : Int, 0 ≤ i → i < gn A → ∀ k : Int, 0 ≤ k → k < 42 → R' (2 + 42 * i + k) = R (2 + 42 * i + k)) (en : Rl R' (gn A) x) (et : R' (2 + 42 * gn A + 1) = gnw A x)
    (eT : ∀ t : Int, 0 ≤ t → t < gT A → ∀ k : Int, 0 ≤ k → k < 13 → R' (1052 + 13 * t + k) = R (1052 + 13 * t + k))
    (eN : gff A x = -9999 → R' (1052 + 13 * gT A) = xn x ∧ ∀ p : Int, 0 ≤ p → p < xn x → R' (1052 + 13 * gT A + 1 + p) = xk x p) : Rw R' (gpu A x (gnw A x)) := by
  obtain ⟨n0, n1, n2, n3⟩ := gnw_b A x
  generalize ht : gnw A x = t at n0 n1 n2 n3 et
  have gT' := gpu_T (A := A) (x := x) (t := t)
  have gn' := gpu_n (A := A) (x := x) (t := t)
  refine ⟨by rw [e0, gn']; rfl, ?_, fun i h0 h1 => ?_, fun s h0 h1 => ?_⟩
  · rw [e1, gT']
    by_cases hg : gff A x = -9999
    · rw [if_pos hg, if_pos (n2 hg)]
    · rw [if_neg hg, if_neg (by have := n3 hg; omega)]
  · rw [gpu_P, gpu_L]
    by_cases hi : i = gn A
    · rw [if_pos hi, if_pos hi, hi]; exact ⟨en, et⟩
    · rw [if_neg hi, if_neg hi]
      obtain ⟨q1, q2⟩ := hR.2.2.1 i h0 (by omega)
      refine ⟨Rl_cg (gLok hI h0 (by omega)) q1 (fun k k0 k1 _ => el i h0 (by omega) k k0 k1), ?_⟩
      rw [el i h0 (by omega) 1 (by omega) (by omega)]; exact q2
  · by_cases hs : t = gT A ∧ s = gT A
    · obtain ⟨q1, q2⟩ := gpu_new (A := A) (x := x) hs.1
      have hg : gff A x = -9999 := by
        by_cases hg : gff A x = -9999
        · exact hg
        · have := n3 hg; omega
      have e9 : s = t := by omega
      rw [gpu_S, if_pos hs]
      refine ⟨by rw [hs.2]; exact (eN hg).1, fun p p0 p1 => ?_⟩
      rw [e9, go_n (q2 p), q1, ← e9, hs.2]
      exact (eN hg).2 p p0 p1
    · have hs2 : s < gT A := by (split at gT') <;> omega
      obtain ⟨q1, q2⟩ := gpu_old (A := A) (x := x) (t := t) h0 hs2
      obtain ⟨r1, r2⟩ := hR.2.2.2 s h0 hs2
      have b := xn_b (hI.2.2.2 s h0 hs2).1
      rw [gpu_S, if_neg hs]
      refine ⟨?_, fun p p0 p1 => ?_⟩
      · have := eT s h0 hs2 0 (by omega) (by omega)
        simp only [Int.add_zero] at this
        rw [this]; exact r1
      · have := eT s h0 hs2 (1 + p) (by omega) (by omega)
        simp only [← Int.add_assoc] at this
        rw [this, gk_cg q1 q2]; exact r2 p p0 p1
end RW
section DT
variable {A : lg} {R R' : Int → Int} {x : xt} {t u s i : Int}
theorem gdT_e (h0 : 0 ≤ t) (h1 : t < gT A) : gdropT A t = (gn A, gT A - 1, A.2.2.1, (fun i => if t < gP A i then gP A i - 1 else gP A i), (fun k => if k < t then gS A k else gS A (k + 1)), (fun k => if k < t then gO A k else gO A (k + 1))) := if_pos ⟨h0, h1⟩
theorem gdT_t (h0 : 0 ≤ t) (h1 : t < gT A) (s0 : 0 ≤ s) (s1 : s < (gT A : Int) - 1) : gs (gdropT A t) s = gs A (if s < t then s else s + 1) ∧ ∀ p, go (gdropT A t) s p = go A (if s < t then s else s + 1) p := by
  have hT : s < gT (gdropT A t) := by rw [gdT_e h0 h1]; show s < ((gT A - 1 : Nat) : Int); omega
  have eS : gS (gdropT A t) s = if s < t then gS A s else gS A (s + 1) := by rw [gdT_e h0 h1]; rfl
  have eO : gO (gdropT A t) s = if s < t then gO A s else gO A (s + 1) := by rw [gdT_e h0 h1]; rfl
  by_cases h : s < t
  · rw [if_pos h] at eS eO ⊢
    refine ⟨?_, fun p => go_cg s0 hT s0 (by omega) eO⟩
    rw [gs_S s0 hT, gs_S s0 (by omega)]; exact eS
  · rw [if_neg h] at eS eO ⊢
    refine ⟨?_, fun p => go_cg s0 hT (by omega) (by omega) eO⟩
    rw [gs_S s0 hT, gs_S (by omega) (by omega)]; exact eS
theorem gI_dropT (hJ : gJ A t) (h0 : 0 ≤ t) (h1 : t < gT A) (hn : ∀ i : Int, 0 ≤ i → i < gn A → gP A i ≠ t) : gI (gdropT A t) := by
  have hq := fun (s : Int) (s0 : 0 ≤ s) (s1 : s < (gT A : Int) - 1) => gdT_t (A := A) h0 h1 s0 s1
  have e := gdT_e h0 h1
  have eT : gT (gdropT A t) = gT A - 1 := by rw [e]; rfl
  have en : gn (gdropT A t) = gn A := by rw [e]; rfl
  have eP : ∀ i, gP (gdropT A t) i = if t < gP A i then gP A i - 1 else gP A i := fun i => by rw [e]; rfl
  have eL : ∀ i, gL (gdropT A t) i = gL A i := fun i => by rw [e]; rfl
  have eS : ∀ k, gS (gdropT A t) k = if k < t then gS A k else gS A (k + 1) := fun k => by rw [e]; rfl
  have eO : ∀ k, gO (gdropT A t) k = if k < t then gO A k else gO A (k + 1) := fun k => by rw [e]; rfl
  have b1 := hJ.1
  have b2 := hJ.2.1
  refine ⟨by omega, by omega, fun i i0 i1 => ?_, fun s s0 s1 => ?_⟩
  · rw [en] at i1
    obtain ⟨a1, a2, a3, a4⟩ := hJ.2.2.1 i i0 i1
    have a5 := hn i i0 i1
    rw [eP, eL, eT]
    by_cases h9 : t < gP A i
    · obtain ⟨q1, q2⟩ := hq (gP A i - 1) (by omega) (by omega)
      rw [if_neg (show ¬ gP A i - 1 < t by omega), show gP A i - 1 + 1 = gP A i from by omega] at q1 q2
      rw [if_pos h9]
      exact ⟨by omega, by omega, a3, by rw [gf_cg q1 q2]; exact a4⟩
    · obtain ⟨q1, q2⟩ := hq (gP A i) (by omega) (by omega)
      rw [if_pos (show gP A i < t by omega)] at q1 q2
      rw [if_neg h9]
      exact ⟨by omega, by omega, a3, by rw [gf_cg q1 q2]; exact a4⟩
  · rw [eT] at s1
    rw [eS, eO]
    by_cases h9 : s < t
    · rw [if_pos h9, if_pos h9]
      obtain ⟨a1, a2, a3⟩ := hJ.2.2.2 s s0 (by omega)
      obtain ⟨i, i0, i1, i2⟩ := a2.resolve_left (by omega)
      refine ⟨a1, ⟨i, i0, by omega, ?_⟩, a3⟩
      rw [eP, if_neg (by omega)]; exact i2
    · rw [if_neg h9, if_neg h9]
      obtain ⟨a1, a2, a3⟩ := hJ.2.2.2 (s + 1) (by omega) (by omega)
      obtain ⟨i, i0, i1, i2⟩ := a2.resolve_left (by omega)
      refine ⟨a1, ⟨i, i0, by omega, ?_⟩, a3⟩
      rw [eP, if_pos (by omega)]; omega
theorem Rw_dropT (hR : Rw R A) (hJ : gJ A u) (h0 : 0 ≤ t) (h1 : t < gT A) (e0 : R' 0 = gn A) (e1 : R' 1 = (gT A : Int) - 1)
    (el : ∀ i : Int, 0 ≤ i → i < gn A → ∀ k : Int, 0 ≤ k → k < 42 → k ≠ 1 → R' (2 + 42 * i + k) = R (2 + 42 * i + k)) (et : ∀ i : Int, 0 ≤ i → i < gn A → R' (2 + 42 * i + 1) = if t < gP A i then gP A i - 1 else gP A i)
    (eT : ∀ s : Int, 0 ≤ s → s < (gT A : Int) - 1 → ∀ k : Int, 0 ≤ k → k < 13 → R' (1052 + 13 * s + k) = R (1052 + 13 * (if s < t then s else s + 1) + k)) : Rw R' (gdropT A t) := by
  have hq := fun (s : Int) (s0 : 0 ≤ s) (s1 : s < (gT A : Int) - 1) => gdT_t (A := A) h0 h1 s0 s1
  have e := gdT_e h0 h1
  have gTe : gT (gdropT A t) = gT A - 1 := by rw [e]; rfl
  have en : gn (gdropT A t) = gn A := by rw [e]; rfl
  have eP : ∀ i, gP (gdropT A t) i = if t < gP A i then gP A i - 1 else gP A i := fun i => by rw [e]; rfl
  have eL : ∀ i, gL (gdropT A t) i = gL A i := fun i => by rw [e]; rfl
  have eS : ∀ k, gS (gdropT A t) k = if k < t then gS A k else gS A (k + 1) := fun k => by rw [e]; rfl
  refine ⟨by rw [e0, en], by rw [e1, gTe]; omega, fun i i0 i1 => ?_, fun s s0 s1 => ?_⟩
  · rw [en] at i1
    rw [eP, eL]
    exact ⟨Rl_cg (hJ.2.2.1 i i0 i1).2.2.1 (hR.2.2.1 i i0 i1).1 (el i i0 i1), et i i0 i1⟩
  · rw [gTe] at s1
    obtain ⟨q1, q2⟩ := hq s s0 (by omega)
    have eT := eT s s0 (by omega)
    have hs' : 0 ≤ (if s < t then s else s + 1) ∧ (if s < t then s else s + 1) < gT A := by split <;> omega
    have eS' : gS (gdropT A t) s = gS A (if s < t then s else s + 1) := by rw [eS]; split <;> rfl
    generalize (if s < t then s else s + 1) = s' at q1 q2 eT hs' eS'
    obtain ⟨r1, r2⟩ := hR.2.2.2 s' hs'.1 hs'.2
    have b := xn_b (hJ.2.2.2 s' hs'.1 hs'.2).1
    rw [eS']
    refine ⟨?_, fun p p0 p1 => ?_⟩
    · have := eT 0 (by omega) (by omega)
      simp only [Int.add_zero] at this
      rw [this]; exact r1
    · have := eT (1 + p) (by omega) (by omega)
      simp only [← Int.add_assoc] at this
      rw [this, gk_cg q1 q2]; exact r2 p p0 p1
end DT
section DL
variable {A : lg} {R R' : Int → Int} {x : xt} {t u s i : Int}
theorem gd1_t : gs (gdrop1 A i) s = gs A s ∧ ∀ p, go (gdrop1 A i) s p = go A s p := ⟨rfl, fun _ => rfl⟩
theorem gJ_drop1 (hI : gI A) (h0 : 0 ≤ i) (h1 : i < gn A) : gJ (gdrop1 A i) (gP A i) := by
  have b1 := hI.1
  have eP : ∀ k, gP (gdrop1 A i) k = if k < i then gP A k else gP A (k + 1) := fun k => rfl
  have eL : ∀ k, gL (gdrop1 A i) k = if k < i then gL A k else gL A (k + 1) := fun k => rfl
  have en : gn (gdrop1 A i) = gn A - 1 := rfl
  refine ⟨by omega, hI.2.1, fun k k0 k1 => ?_, fun s s0 s1 => ?_⟩
  · rw [eP, eL]
    by_cases hk : k < i
    · rw [if_pos hk, if_pos hk]; exact hI.2.2.1 k k0 (by omega)
    · rw [if_neg hk, if_neg hk]; exact hI.2.2.1 (k + 1) (by omega) (by omega)
  · obtain ⟨a1, ⟨j, j0, j1, j2⟩, a3⟩ := hI.2.2.2 s s0 s1
    refine ⟨a1, ?_, a3⟩
    by_cases hs : s = gP A i
    · exact Or.inl hs
    · refine Or.inr ?_
      by_cases hj : j < i
      · exact ⟨j, j0, by omega, by rw [eP, if_pos hj]; exact j2⟩
      · have hne : j ≠ i := fun e9 => hs (by rw [← e9, j2])
        exact ⟨j - 1, by omega, by omega, by rw [eP, if_neg (by omega), show j - 1 + 1 = j from by omega]; exact j2⟩
theorem gI_drop1 (hI : gI A) (h0 : 0 ≤ i) (h1 : i < gn A) (hl : ∃ k : Int, 0 ≤ k ∧ k < gn (gdrop1 A i) ∧ gP (gdrop1 A i) k = gP A i) : gI (gdrop1 A i) := by
  have hJ := gJ_drop1 hI h0 h1
  refine ⟨hJ.1, hJ.2.1, hJ.2.2.1, fun s s0 s1 => ?_⟩
  obtain ⟨a1, a2, a3⟩ := hJ.2.2.2 s s0 s1
  refine ⟨a1, ?_, a3⟩
  rcases a2 with a2 | a2
  · rw [a2]; exact hl
  · exact a2
theorem Rw_drop1 (hR : Rw R A) (hI : gI A) (h0 : 0 ≤ i) (h1 : i < gn A) (e0 : R' 0 = (gn A : Int) - 1) (e1 : R' 1 = gT A)
    (el : ∀ j : Int, 0 ≤ j → j < (gn A : Int) - 1 → ∀ k : Int, 0 ≤ k → k < 42 → R' (2 + 42 * j + k) = R (2 + 42 * (if j < i then j else j + 1) + k))
    (eT : ∀ q : Int, 1052 ≤ q → R' q = R q) : Rw R' (gdrop1 A i) := by
  have eP : ∀ k, gP (gdrop1 A i) k = if k < i then gP A k else gP A (k + 1) := fun k => rfl
  have eL : ∀ k, gL (gdrop1 A i) k = if k < i then gL A k else gL A (k + 1) := fun k => rfl
  have en : gn (gdrop1 A i) = gn A - 1 := rfl
  refine ⟨by rw [e0, en]; omega, e1, fun j j0 j1 => ?_, fun s s0 s1 => ?_⟩
  · have el := el j j0 (by omega)
    have hj' : 0 ≤ (if j < i then j else j + 1) ∧ (if j < i then j else j + 1) < gn A := by split <;> omega
    have eP' : gP (gdrop1 A i) j = gP A (if j < i then j else j + 1) := by rw [eP]; split <;> rfl
    have eL' : gL (gdrop1 A i) j = gL A (if j < i then j else j + 1) := by rw [eL]; split <;> rfl
    generalize (if j < i then j else j + 1) = j' at el hj' eP' eL'
    rw [eP', eL']
    obtain ⟨q1, q2⟩ := hR.2.2.1 j' hj'.1 hj'.2
    have b := xn_b (gLok hI hj'.1 hj'.2)
    refine ⟨⟨?_, fun k k0 k1 => ?_⟩, by rw [el 1 (by omega) (by omega)]; exact q2⟩
    · have := el 0 (by omega) (by omega)
      simp only [Int.add_zero] at this
      rw [this]; exact q1.1
    · have := el (2 + k) (by omega) (by omega)
      simp only [← Int.add_assoc] at this
      rw [this]; exact q1.2 k k0 k1
  · have s1 : s < gT A := s1
    obtain ⟨r1, r2⟩ := hR.2.2.2 s s0 s1
    refine ⟨by rw [eT _ (by omega)]; exact r1, fun p p0 p1 => ?_⟩
    rw [eT _ (by omega)]; exact r2 p p0 p1
theorem gI_drop (hI : gI A) (h0 : 0 ≤ i) (h1 : i < gn A) : gI (gdrop A i) := by
  unfold gdrop
  rw [if_pos ⟨h0, h1⟩]
  have hP := gP_b hI h0 h1
  by_cases h : lf (fun k => decide (gP (gdrop1 A i) k = gP A i)) (gn (gdrop1 A i)) = -9999
  · rw [if_pos h]
    refine gI_dropT (gJ_drop1 hI h0 h1) hP.1 hP.2.1 (fun k k0 k1 hk => ?_)
    have := lf_none h k.toNat (by omega)
    rw [show ((k.toNat : Nat) : Int) = k from by omega, decide_eq_true hk] at this
    cases this
  · rw [if_neg h]
    obtain ⟨k, k1, k2, k3, k4⟩ := lf_some h
    exact gI_drop1 hI h0 h1 ⟨k, by omega, by omega, of_decide_eq_true k3⟩
end DL
