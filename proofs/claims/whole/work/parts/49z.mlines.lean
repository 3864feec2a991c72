/-! lines counted, bounds alone (written by wip/whole/m50.py) -/
section MX
variable {sc : Int × (Int → Int)} {c : mv_C} {h : mv_H} {v : mvt}
/-! the reference: lines' counting once more (written by wip/whole/m50.py) -/
theorem lc_z {q : Int → Bool} : ∀ {n : Nat}, lc q n = 0 → ∀ k : Nat, k < n → q k = false
  | 0, _, k, hk => absurd hk (Nat.not_lt_zero _)
  | n + 1, h, k, hk => by
    have hb := lc_b (q := q) n
    have h : lc q n + (bif q n then 1 else 0) = 0 := h
    cases hq : q n with
    | true => rw [hq] at h; have h : lc q n + 1 = 0 := h; omega
    | false =>
      rw [hq] at h
      have h : lc q n + 0 = 0 := h
      by_cases e : k = n
      · rw [e]; exact hq
      · exact lc_z (n := n) (by omega) k (by omega)
theorem lc_0 {q : Int → Bool} : ∀ {n : Nat}, (∀ k : Nat, k < n → q k = false) → lc q n = 0
  | 0, _ => rfl
  | n + 1, h => by
    show lc q n + (bif q n then 1 else 0) = 0
    rw [h n (by omega), lc_0 (fun k hk => h k (by omega))]; rfl
theorem Rw_same {A : lg} {R R' : Int → Int} (hR : Rw R A) (hI : gI A) (e : ∀ q : Int, (q < 2 + 42 * gn A ∨ 2 + 42 * gn A + 42 ≤ q) → R' q = R q) (hn : gn A ≤ 24 := by omega) : Rw R' A := by
  refine ⟨(e 0 (by omega)).trans hR.1, (e 1 (by omega)).trans hR.2.1, fun i i0 i1 => ?_, fun t t0 t1 => ?_⟩
  · obtain ⟨q1, q2⟩ := hR.2.2.1 i i0 i1
    exact ⟨Rl_cg (gLok hI i0 i1) q1 (fun k k0 k1 _ => e _ (by omega)), (e _ (by omega)).trans q2⟩
  · obtain ⟨q1, q2⟩ := hR.2.2.2 t t0 t1
    have b := xn_b (hI.2.2.2 t t0 t1).1
    exact ⟨(e _ (by omega)).trans q1, fun p p0 p1 => (e _ (by omega)).trans (q2 p p0 p1)⟩
theorem Rl_mv {R R' : Int → Int} {i j : Int} {x : xt} (hx : xok x) (h : Rl R i x) (e : ∀ k : Int, 0 ≤ k → k < 42 → R' (2 + 42 * j + k) = R (2 + 42 * i + k)) : Rl R' j x := by
  have b := xn_b hx
  refine ⟨?_, fun k h0 h1 => ?_⟩
  · have := e 0 (by omega) (by omega)
    simp only [Int.add_zero] at this
    rw [this]; exact h.1
  · have := e (2 + k) (by omega) (by omega)
    simp only [← Int.add_assoc] at this
    rw [this]; exact h.2 k h0 h1

set_option maxRecDepth 10000 in
theorem m_linesOfX1 (a : Int) (ha : 266 ≤ a ∧ a ≤ 268) {A : lg} (hR : Rw (v a) A) (hB : gn A ≤ 24 ∧ ∀ k : Int, 0 ≤ k → k < gn A → 0 ≤ gP A k ∧ gP A k < 13) (t : Int) (ht : mv_i t) (e : Int) (h0 : 0 ≤ e) (h1 : e ≤ gn A) : ∀ (m : Nat) (i : Nat), (i + m = e.toNat) → mv_Ev sc 135 5 [(2, a), (0, t), (0, e), (0, lc (fun k => decide (gP A k = t)) i), (0, (i : Int))] [] c (mH h v) (mv_Rd (0, lc (fun k => decide (gP A k = t)) e.toNat) c (mH h v)) := by
  intro m
  induction m with
  | zero =>
    intro i hk
    have b1 := hB.1
    have r0 := hR.1
    have r1 := hR.2.1
    have gr := fun (k : Int) (h0 : 0 ≤ k) (h1 : k < gn A) => (hR.2.2.1 k h0 h1).2
    have hK : (mv_m 135).1 = kc_Mod_linesOf := rfl
    refine e_step (pc' := 7) hK rfl rfl rfl ?_
    refine e_step (pc' := 8) hK rfl rfl rfl ?_
    refine e_icmp (t := 38) (pc' := 11) hK rfl (by omega) (by omega) (by decide) rfl (fun hb8 => ?_) (fun hb8 => ?_)
    · replace hb8 := cq_ge.1.mp hb8
      refine e_step (pc' := 39) hK rfl rfl rfl ?_
      refine e_ret hK rfl rfl rfl ?_
      refine ⟨?_, rfl, rfl⟩
      congr 1
      rw [show e.toNat = i from by omega]
    · replace hb8 := cq_ge.2.mp hb8
      exfalso; first | omega | exact absurd trivial (by assumption)
  | succ m ih =>
    intro i hk
    have b1 := hB.1
    have r0 := hR.1
    have r1 := hR.2.1
    have gr := fun (k : Int) (h0 : 0 ≤ k) (h1 : k < gn A) => (hR.2.2.1 k h0 h1).2
    have hK : (mv_m 135).1 = kc_Mod_linesOf := rfl
    refine e_step (pc' := 7) hK rfl rfl rfl ?_
    refine e_step (pc' := 8) hK rfl rfl rfl ?_
    refine e_icmp (t := 38) (pc' := 11) hK rfl (by omega) (by omega) (by decide) rfl (fun hb8 => ?_) (fun hb8 => ?_)
    · replace hb8 := cq_ge.1.mp hb8
      exfalso; first | omega | exact absurd trivial (by assumption)
    · replace hb8 := cq_ge.2.mp hb8
      have q9 := hB.2 (i : Int) (by omega) (by omega)
      refine e_step (pc' := 12) hK rfl rfl rfl ?_
      refine e_step (pc' := 13) hK rfl rfl rfl ?_
      refine e_step (pc' := 15) hK rfl rfl rfl ?_
      refine e_cRS1 (z := 116) (pc' := 18) hK rfl rfl rfl (Nat.le_of_ble_eq_true rfl) (Nat.le_of_ble_eq_true rfl) (m_lineAt _) (by decide) rfl ?_
      try simp (disch := omega) only [mH_t64, mH_r1, mH_r3, mH_r4, mH_r5, mH_r6, mH_r8, mH_r9, mH_r10, mH_r11, mH_r12, mH_r14, mH_i0, mH_i2, mH_i7, mH_i13, mH_i15, mH_t71, mH_t, mH_lr, mH_l65, mH_l69, mH_l70, mH_l71, mH_l72, mH_l73, mH_l74, mH_l75, mH_c, gr]
      refine e_step (pc' := 19) hK rfl rfl rfl ?_
      refine e_step (pc' := 20) hK rfl rfl rfl ?_
      refine e_iald (pc' := 21) hK rfl (by simp (disch := omega) only [mH_t64, mH_r1, mH_r3, mH_r4, mH_r5, mH_r6, mH_r8, mH_r9, mH_r10, mH_r11, mH_r12, mH_r14, mH_i0, mH_i2, mH_i7, mH_i13, mH_i15, mH_t71, mH_t, mH_lr, mH_l65, mH_l69, mH_l70, mH_l71, mH_l72, mH_l73, mH_l74, mH_l75, mH_c, gr]) (by omega) (by (try simp (disch := omega) only [mH_t64, mH_r1, mH_r3, mH_r4, mH_r5, mH_r6, mH_r8, mH_r9, mH_r10, mH_r11, mH_r12, mH_r14, mH_i0, mH_i2, mH_i7, mH_i13, mH_i15, mH_t71, mH_t, mH_lr, mH_l65, mH_l69, mH_l70, mH_l71, mH_l72, mH_l73, mH_l74, mH_l75, mH_c, gr]); omega) rfl ?_
      try simp (disch := omega) only [mH_t64, mH_r1, mH_r3, mH_r4, mH_r5, mH_r6, mH_r8, mH_r9, mH_r10, mH_r11, mH_r12, mH_r14, mH_i0, mH_i2, mH_i7, mH_i13, mH_i15, mH_t71, mH_t, mH_lr, mH_l65, mH_l69, mH_l70, mH_l71, mH_l72, mH_l73, mH_l74, mH_l75, mH_c, gr]
      refine e_step (pc' := 22) hK rfl rfl rfl ?_
      refine e_icmp (t := 29) (pc' := 25) hK rfl (by omega) (by omega) (by decide) rfl (fun hb22 => ?_) (fun hb22 => ?_)
      · replace hb22 := cq_ne.1.mp hb22
        refine e_step (pc' := 30) hK rfl rfl rfl ?_
        refine e_step (pc' := 31) hK rfl rfl rfl ?_
        refine e_step (pc' := 32) hK rfl rfl rfl ?_
        try simp only [List.set_cons_zero, List.set_cons_succ]
        refine e_step (pc' := 35) hK rfl rfl rfl ?_
        try simp only [List.set_cons_zero, List.set_cons_succ]
        refine e_goto (t := 5) hK rfl (by decide) ?_
        rw [Int.add_zero, ← lc_f (q := fun k => decide (gP A k = t)) (decide_eq_false hb22)]
        exact ih (i + 1) (by omega)
      · replace hb22 := cq_ne.2.mp hb22
        refine e_step (pc' := 26) hK rfl rfl rfl ?_
        refine e_goto (t := 30) hK rfl (by decide) ?_
        refine e_step (pc' := 31) hK rfl rfl rfl ?_
        refine e_step (pc' := 32) hK rfl rfl rfl ?_
        try simp only [List.set_cons_zero, List.set_cons_succ]
        refine e_step (pc' := 35) hK rfl rfl rfl ?_
        try simp only [List.set_cons_zero, List.set_cons_succ]
        refine e_goto (t := 5) hK rfl (by decide) ?_
        rw [← lc_t (q := fun k => decide (gP A k = t)) (decide_eq_true hb22)]
        exact ih (i + 1) (by omega)
set_option maxRecDepth 10000 in
theorem m_linesOfX (a : Int) (ha : 266 ≤ a ∧ a ≤ 268) {A : lg} (hR : Rw (v a) A) (hB : gn A ≤ 24 ∧ ∀ k : Int, 0 ≤ k → k < gn A → 0 ≤ gP A k ∧ gP A k < 13) (t : Int) (ht : mv_i t) (e : Int) (h0 : 0 ≤ e) (h1 : e ≤ gn A) : mv_Cl sc q_Mod_linesOf [(2, a), (0, t), (0, e)] c (mH h v) (mv_Rd (0, lc (fun k => decide (gP A k = t)) e.toNat) c (mH h v)) := by
  show mv_Ev sc 135 0 [(2, a), (0, t), (0, e), (5, 0), (5, 0)] [] c (mH h v) _
  have hK : (mv_m 135).1 = kc_Mod_linesOf := rfl
  refine e_step (pc' := 1) hK rfl rfl rfl ?_
  refine e_step (pc' := 2) hK rfl rfl rfl ?_
  try simp only [List.set_cons_zero, List.set_cons_succ]
  refine e_step (pc' := 3) hK rfl rfl rfl ?_
  refine e_step (pc' := 5) hK rfl rfl rfl ?_
  try simp only [List.set_cons_zero, List.set_cons_succ]
  exact m_linesOfX1 a ha hR hB t ht e h0 h1 e.toNat 0 (by omega)
end MX
