/-! the reference's face: what holds between calls (written by wip/whole/m70.py) -/
def sz (A : lg) : Prop := gI A ∧ gn A ≤ 24 ∧ gT A ≤ 12
def MdA (v : mvt) (W : wt) : Prop := TxM v (wN W) (wF W) ∧ Rw (v 266) (wA W) ∧ sz (wA W) ∧ HdR v (wn W) (wg W) ∧ (∀ j : Int, 0 ≤ j → j < wn W → sz (wg W j)) ∧
  ∀ s : Int, (s = 0 ∨ s = 1) → v 271 s = mv_bo (wk W s) ∧ (wk W s = true → sz (wS W s) ∧ Rw (fun q => v 270 (1221 * s + q)) (wS W s))
theorem MdA.kq {v w : mvt} {W : wt} (hM : MdA v W) (hk : ∀ b : Int, b = 265 ∨ b = 266 ∨ b = 269 ∨ b = 270 ∨ b = 271 → w b = v b) (h2 : w 264 2 = v 264 2) (h7 : w 264 7 = v 264 7) : MdA w W := by
  obtain ⟨a1, a2, a3, a4, a5, a6⟩ := hM
  refine ⟨?_, by rw [hk 266 (by omega)]; exact a2, a3, ?_, a5, fun s hs => ?_⟩
  · unfold TxM at *
    rw [h2, hk 265 (by omega)]; exact a1
  · unfold HdR at *
    rw [h7, hk 269 (by omega)]; exact a4
  · rw [hk 271 (by omega), hk 270 (by omega)]; exact a6 s hs
theorem MdA.ms {v w : mvt} {W : wt} (hM : MdA v W) (h : ms v w) : MdA w W := hM.kq (fun b hb => h b (by omega) (by omega) (by omega)) (congrFun (h 264 (by omega) (by omega) (by omega)) 2) (congrFun (h 264 (by omega) (by omega) (by omega)) 7)
theorem MdA.rf {v : mvt} {W : wt} (hM : MdA v W) (x : Int) : MdA (gu v 264 (mv_up (v 264) 0 x)) W := hM.kq (fun b hb => gu_n (by omega)) (by rw [gu_s, up_n (by omega)]) (by rw [gu_s, up_n (by omega)])
theorem clb_lc {A : lg} {t e : Int} (h0 : 0 ≤ e) (h1 : e ≤ gn A) : clb A t e = lc (fun k => decide (gP A k = t)) e.toNat := by
  unfold clb
  rw [lc_rest (i := e.toNat) (by omega) (fun j a1 a2 => by show (decide ((j : Int) < e) && _) = false; rw [decide_eq_false (by omega)]; rfl)]
  exact lc_ext (fun j hj => by show (decide ((j : Int) < e) && _) = _; rw [decide_eq_true (by omega)]; rfl)
theorem lc_one {q : Int → Bool} {a : Nat} (h1 : q a = true) (h2 : ∀ j : Nat, j ≠ a → q j = false) : ∀ {n : Nat}, a < n → lc q n = 1
  | 0, h => absurd h (Nat.not_lt_zero _)
  | n + 1, h => by
    by_cases e : a = n
    · subst e
      show lc q a + (bif q a then 1 else 0) = 1
      rw [h1, lc_0 (fun k hk => h2 k (by omega))]; rfl
    · show lc q n + (bif q n then 1 else 0) = 1
      rw [h2 n (by omega), lc_one h1 h2 (by omega)]; rfl
/-- how many different things: also where the piece is fixed -/
theorem cdt_m {A : lg} {t p : Int} (hI : gI A) (h0 : 0 ≤ t) (h1 : t < gT A) (p0 : 0 ≤ p) (p1 : p < xn (gs A t)) : cdt A t p = lc (fun i => decide (gP A i = t) && !cz A (gl A i) t p i) (gn A) := by
  unfold cdt
  by_cases hs : csl1 A t p = true
  · rw [if_pos hs]
  · rw [if_neg hs]
    have hk : gk A t p < 3 := by
      have := gk_i hI h0 h1 p0 p1
      unfold csl1 at hs
      rw [Bool.or_eq_true, decide_eq_true_eq, decide_eq_true_eq] at hs
      omega
    have hg := gfi_b hI h0 h1
    have hz : ∀ i : Int, 0 ≤ i → i < gn A → gP A i = t → gfi A t < i → cz A (gl A i) t p i = true := fun i i0 i1 it hf => by
      have c1 := (gI_k3 hI i0 i1 it p0 p1).2.2 hk
      have c2 := (gI_k3 hI hg.1 hg.2.1 hg.2.2.1 p0 p1).2.2 hk
      refine cz_t hg.1 hg.2.1 hf hg.2.2.1 ?_
      rw [gl_L i0 i1, csm_w (by omega) hg.1 hg.2.1]
      exact xw_tr c1.2 (xw_sym c2.2)
    have hz0 : cz A (gl A (gfi A t)) t p (gfi A t) = false := cz_f (fun k k0 k1 k2 k3 => by
      have := hg.2.2.2 k.toNat (by omega)
      rw [show ((k.toNat : Nat) : Int) = k from by omega] at this
      exact absurd k3 this)
    have e1 := lc_one (q := fun i => decide (0 ≤ i) && decide (i < gn A) && (decide (gP A i = t) && !cz A (gl A i) t p i)) (a := (gfi A t).toNat) (by
      rw [show (((gfi A t).toNat : Nat) : Int) = gfi A t from by omega]
      show (decide _ && decide _ && (decide _ && !_)) = true
      rw [decide_eq_true hg.1, decide_eq_true hg.2.1, decide_eq_true hg.2.2.1, hz0]; rfl) (fun j hj => by
      show (decide _ && decide _ && (decide _ && !_)) = false
      by_cases hjn : (j : Int) < gn A
      · by_cases hjt : gP A j = t
        · have h9 : gfi A t < j := by
            by_cases h8 : (j : Int) < gfi A t
            · exact absurd hjt (hg.2.2.2 j h8)
            · omega
          rw [hz j (by omega) hjn hjt h9]; simp
        · rw [decide_eq_false hjt]; simp
      · rw [decide_eq_false hjn]; simp) (n := gn A) (by omega)
    rw [← e1]
    refine lc_ext (fun i hi => ?_)
    show (decide ((0 : Int) ≤ (i : Int)) && decide ((i : Int) < (gn A : Int)) && (decide (gP A i = t) && !cz A (gl A i) t p i)) = (decide (gP A i = t) && !cz A (gl A i) t p i)
    rw [decide_eq_true (show (0 : Int) ≤ i by omega), decide_eq_true (show (i : Int) < gn A by omega)]; rfl
/-- the last lines' run, one line further -/
theorem crs_st {A : lg} {t p : Int} : ∀ {m : Nat} {l s v : Int}, m ≤ gn A → (glo A t m = -9999 → crs A t p m l s v = l) ∧ (glo A t m ≠ -9999 → crs A t p m l s v = if 1 < l ∧ v - xv (gl A (glo A t m)) p ≠ (if l = 1 then v - xv (gl A (glo A t m)) p else s) then l else crs A t p (glo A t m).toNat (l + 1) (if l = 1 then v - xv (gl A (glo A t m)) p else s) (xv (gl A (glo A t m)) p))
  | 0, l, s, v, _ => ⟨fun _ => rfl, fun h => by
      rcases glo_p A t ((0 : Nat) : Int) with h1 | h1
      · exact absurd h1 h
      · omega⟩
  | m + 1, l, s, v, hm => by
    have e1 : glo A t ((m + 1 : Nat) : Int) = if gP A m = t then (m : Int) else glo A t m := by
      rw [glo_ll (by omega) (by omega), glo_ll (by omega) (by omega), show (((m + 1 : Nat) : Int)).toNat = m + 1 from by omega, show ((m : Int)).toNat = m from by omega]
      by_cases h : gP A m = t
      · rw [if_pos h]; exact ll_h (q := fun k => decide (gP A k = t)) (decide_eq_true h)
      · rw [if_neg h]; exact ll_s (q := fun k => decide (gP A k = t)) (decide_eq_false h)
    have e2 : gt A m = gP A m := gt_P (by omega) (by omega)
    have ih := crs_st (A := A) (t := t) (p := p) (m := m) (l := l) (s := s) (v := v) (by omega)
    by_cases h : gP A m = t
    · rw [if_pos h] at e1
      rw [e1]
      refine ⟨fun h9 => by omega, fun _ => ?_⟩
      rw [show ((m : Int)).toNat = m from by omega]
      exact if_pos (e2.trans h)
    · rw [if_neg h] at e1
      rw [e1]
      have e3 : crs A t p (m + 1) l s v = crs A t p m l s v := if_neg (by rw [e2]; exact h)
      rw [e3]
      exact ih
-- the cost of a line that is settled
theorem glo_put {A : lg} {x : xt} {t s pl : Int} (h : pl ≤ gn A) : glo (gpu A x t) s pl = glo A s pl := by
  unfold glo
  rw [gpu_n]
  rw [ll_s (q := fun i => decide (i < pl) && decide (gP (gpu A x t) i = s)) (by show (decide _ && _) = false; rw [decide_eq_false (by omega)]; rfl)]
  refine ll_ext (fun i hi => ?_)
  show (decide _ && decide _) = (decide _ && decide _)
  rw [gpu_P, if_neg (by omega)]
theorem col_put {A : lg} {x : xt} (hI : gI A) : col (gpu A x (gnw A x)) x (gnw A x) (gn A) = col A x (gff A x) (gn A) := by
  obtain ⟨n0, n1, n2, n3⟩ := gnw_b A x
  have el : ∀ b : Int, 0 ≤ b → b < gn A → gl (gpu A x (gnw A x)) b = gl A b ∧ gt (gpu A x (gnw A x)) b = gt A b := fun b b0 b1 => by
    rw [gl_L b0 (by rw [gpu_n]; omega), gl_L b0 b1, gt_P b0 (by rw [gpu_n]; omega), gt_P b0 b1, gpu_L, gpu_P, if_neg (by omega), if_neg (by omega)]
    exact ⟨rfl, rfl⟩
  have evb : ∀ b p : Int, 0 ≤ b → b < gn A → vb (gpu A x (gnw A x)) b p = vb A b p := fun b p b0 b1 => by
    unfold vb
    rw [(el b b0 b1).1, (el b b0 b1).2, glo_put (by omega)]
    rcases glo_p A (gt A b) b with h | h
    · rw [if_pos h, if_pos h]
    · have hne : ¬ glo A (gt A b) b = -9999 := by omega
      rw [if_neg hne, if_neg hne, (el _ h.1 h.2.2.1).1]
  have econ : ∀ b p : Int, (b = -9999 ∨ (0 ≤ b ∧ b < gn A)) → con (gpu A x (gnw A x)) x p b = con A x p b := fun b p hb => by
    rcases hb with hb | hb
    · rw [hb, con_0, con_0]
    · unfold con
      rw [(el b hb.1 hb.2).1, evb b p hb.1 hb.2]
  unfold col
  refine congrArg (fun z => 1 + z) (lsum_ext (fun p hp => ?_))
  unfold cop
  rw [glo_put (Int.le_refl _)]
  by_cases hg : gff A x = -9999
  · have e1 := n2 hg
    have g1 : glo A (gnw A x) (gn A) = -9999 := by
      rcases glo_p A (gnw A x) (gn A) with h | h
      · exact h
      · have := gP_b hI h.1 h.2.2.1; omega
    have g2 : glo A (gff A x) (gn A) = -9999 := by
      rcases glo_p A (gff A x) (gn A) with h | h
      · exact h
      · have := gP_b hI h.1 h.2.2.1; omega
    have g3 : go A (gff A x) p = false := by
      unfold go; rw [hg, decide_eq_false (by omega)]; rfl
    rw [g1, g2, econ _ _ (Or.inl rfl), (gpu_new (A := A) (x := x) e1).2, g3]
    rfl
  · obtain ⟨e1, e2⟩ := n3 hg
    have hb := glo_p A (gff A x) (gn A)
    rw [e1] at econ el ⊢
    rw [e1] at e2
    have e3 := (gpu_old (A := A) (x := x) (t := gff A x) (by omega) e2).2 p
    rw [econ _ _ (by omega), e3]
    have e4 : cz (gpu A x (gff A x)) x (gff A x) p (gn A) = cz A x (gff A x) p (gn A) := by
      unfold cz
      rw [gpu_n]
      show (lo _ (gn A) || (decide _ && _ && _)) = _
      rw [decide_eq_false (show ¬ ((gn A : Int) < gn A) by omega)]
      show (lo _ (gn A) || false) = _
      rw [Bool.or_false]
      refine lo_ext (fun i hi => ?_)
      show (decide _ && decide _ && csm _ _ _ _) = (decide _ && decide _ && csm _ _ _ _)
      rw [(el i (by omega) (by omega)).2]
      unfold csm
      rw [(el i (by omega) (by omega)).1]
    rw [e4]
