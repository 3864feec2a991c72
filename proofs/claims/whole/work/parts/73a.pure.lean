/-! the reference's face: what actions keep (written by wip/whole/m73.py) -/
theorem sz_hs {n : Nat} {g : Int → lg} {A : lg} (hn : n ≤ 14) (hg : ∀ j : Int, 0 ≤ j → j < n → sz (g j)) (h : sz A) : ∀ j : Int, 0 ≤ j → j < hs_n n → sz (hs_g n g A j) := fun j j0 j1 => by
  unfold hs_n at j1
  unfold hs_g
  by_cases e : n = 14
  · rw [if_pos e] at j1 ⊢
    show sz (if j = 13 then A else g (j + 1))
    split
    · exact h
    · exact hg (j + 1) (by omega) (by omega)
  · rw [if_neg e] at j1 ⊢
    show sz (if j = n then A else g j)
    split
    · exact h
    · exact hg j j0 (by omega)
/-- the elder log remembered (w), the row of the present one changed (u) -/
theorem MdA.act {v w u : mvt} {W : wt} {B : lg} (hM : MdA v W) (hw : ∀ b : Int, b ≠ 264 → b ≠ 269 → w b = v b) (hw4 : ∀ k : Int, k ≠ 7 → w 264 k = v 264 k) (hH : HdR w (hs_n (wn W)) (hs_g (wn W) (wg W) (wA W))) (hu : mo 266 w u) (hB : Rw (u 266) B) (hz : sz B) : MdA u (w_R W B) := by
  obtain ⟨a1, a2, a3, a4, a5, a6⟩ := hM
  have e64 : u 264 = w 264 := hu 264 (by omega) (by omega) (by omega) (by omega)
  refine ⟨?_, hB, hz, ?_, sz_hs a4.1 a5 a3, fun s hs => ?_⟩
  · unfold TxM at *
    rw [hu 265 (by omega) (by omega) (by omega) (by omega), hw 265 (by omega) (by omega), e64, hw4 2 (by omega)]; exact a1
  · unfold HdR at *
    rw [e64, hu 269 (by omega) (by omega) (by omega) (by omega)]; exact hH
  · rw [hu 271 (by omega) (by omega) (by omega) (by omega), hu 270 (by omega) (by omega) (by omega) (by omega), hw 271 (by omega) (by omega), hw 270 (by omega) (by omega)]
    exact a6 s hs
theorem gff_own {A : lg} {i : Int} (hI : gI A) (h0 : 0 ≤ i) (h1 : i < gn A) : gff A (gL A i) ≠ -9999 := fun h => by
  obtain ⟨a1, a2, a3, a4⟩ := hI.2.2.1 i h0 h1
  have := lf_none (q := fun t => gf A (gL A i) t) h (gP A i).toNat (by omega)
  rw [show (((gP A i).toNat : Nat) : Int) = gP A i from by omega, a4] at this
  cases this
theorem sz_put {A : lg} {x : xt} (h : sz A) (hx : xok x) (hg : gtf A x ≠ -9999) : sz (gput A x (gtf A x)) := by
  obtain ⟨c1, c2⟩ := gtf_c.2 hg
  rw [gput_w hg h.2.2]
  exact ⟨gI_put h.1 hx h.2.1 h.2.2, by rw [gpu_n]; omega, gpu_T12 c1.2 h.2.2⟩
theorem gdrop_sz {A : lg} {i : Int} : gn (gdrop A i) ≤ gn A ∧ gT (gdrop A i) ≤ gT A := by
  unfold gdrop gdropT
  split
  · split
    · split
      · exact ⟨Nat.sub_le _ _, Nat.sub_le _ _⟩
      · exact ⟨Nat.sub_le _ _, Nat.le_refl _⟩
    · exact ⟨Nat.sub_le _ _, Nat.le_refl _⟩
  · exact ⟨Nat.le_refl _, Nat.le_refl _⟩
theorem sz_drop {A : lg} {i : Int} (h : sz A) (h0 : 0 ≤ i) (h1 : i < gn A) : sz (gdrop A i) := by
  have e := gdrop_sz (A := A) (i := i)
  exact ⟨gI_drop h.1 h0 h1, by have := h.2.1; omega, by have := h.2.2; omega⟩
theorem sz_gle {A : lg} (h : sz A) : sz (gle A) := by
  refine ⟨gI_gle h.1, ?_, ?_⟩
  · by_cases e : glv A = -9999
    · rw [gle_none e]; exact h.2.1
    · rw [(gle_T e).2.2]; exact h.2.1
  · by_cases e : glv A = -9999
    · rw [gle_none e]; exact h.2.2
    · have := (gle_T e).1; have := h.2.2; omega
theorem sz_gall : ∀ (k : Nat) {A : lg}, sz A → sz (gall A k)
  | 0, _, h => h
  | k + 1, A, h => by
    unfold gall
    split
    · exact h
    · exact sz_gall k (sz_gle h)
theorem sz_open {A : lg} {t p : Int} (h : sz A) (h0 : 0 ≤ t) (h1 : t < gT A) (h2 : 0 ≤ p) (h3 : p < xn (gs A t)) (hk : gk A t p = 0) : sz (gopen A t p) := by
  have e := gop_same (A := A) (t := t) (q := p)
  exact ⟨gI_open h.1 h0 h1 h2 h3 ((gk_w h.1 h0 h1).mp (Or.inl hk)), by rw [e.1]; exact h.2.1, by rw [e.2.1]; exact h.2.2⟩
theorem sz_gtk {A : lg} (h : sz A) : sz (gtk A (gn A)).2 := by
  obtain ⟨t1, t2, t3, t4⟩ := gtk_I (A := A) (fun k => by
    by_cases hk : 0 ≤ k ∧ k < gn A
    · rw [gl_L hk.1 hk.2]; exact gLok h.1 hk.1 hk.2
    · unfold gl; rw [if_neg hk]; exact xok0) (gn A) h.2.1
  exact ⟨t1, by have := h.2.1; omega, t2⟩
theorem Rl_tg {R : Int → Int} {i l : Int} {n : Nat} {f : Int → Int} (h : Rl R i (n, f)) : Rl R i (xtg n f l) := ⟨h.1, fun k k0 k1 => by rw [show (xtg n f l).2 = mv_up f (-1) l from rfl, up_n (by omega)]; exact h.2 k k0 k1⟩
theorem TxM.kq {v w : mvt} {N : Nat} {f : Int → Int} (h : TxM v N f) (h5 : w 265 = v 265) (h2 : w 264 2 = v 264 2) : TxM w N f := by unfold TxM at *; rw [h2, h5]; exact h
