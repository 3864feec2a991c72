/-! words, digits, the line that would come next (written by wip/whole/m31.py) -/
section CX
variable {sc : Int × (Int → Int)} {c : mv_C} {h : mv_H}
set_option maxRecDepth 10000 in
theorem c_wbI {s : Int} {A : lg} (hs : StA h s A) (i q0 : Int) (hi0 : 0 ≤ i) (hi1 : i < gn A) (hq0 : mv_i q0) (j : Nat) (hj : (j : Int) ≤ i) (K : lo (fun q => xw (gl A i) q0 (gl A (j : Int)) q) (cwe A i q0 (j : Int)).toNat = false → ∀ (a5 a6 a7 : mv_V), mv_Ev sc 89 70 [(2, s), (0, i), (0, q0), (2, lrf h s A i), (0, (j : Int)), a5, a6, a7] [] c h (mv_Rd (0, mv_bo (cwb A i q0)) c h)) : ∀ (m : Nat) (q : Nat), q + m = (cwe A i q0 (j : Int)).toNat ∧ lo (fun q => xw (gl A i) q0 (gl A (j : Int)) q) q = false → mv_Ev sc 89 43 [(2, s), (0, i), (0, q0), (2, lrf h s A i), (0, (j : Int)), (2, lrf h s A (j : Int)), (0, cwe A i q0 (j : Int)), (0, (q : Int))] [] c h (mv_Rd (0, mv_bo (cwb A i q0)) c h) := by
  intro m
  induction m with
  | zero =>
    intro q ⟨hi, hf⟩
    have hs0 := hs
    obtain ⟨⟨s1, s2, t0, f0, f1, f2, f3, f4, ⟨t1, l1⟩, ⟨t2, l2⟩, ⟨t3, l3⟩, ⟨t4, l4⟩, hl0⟩, hB, fn, fT, gL', gP', gS', gO'⟩ := hs
    have b1 := hB.1
    have b2 := hB.2.1
    have qtg := fun (i : Int) => (hs0.lr i).tag
    have qfn := fun (i : Int) => (hs0.lr i).n
    have qln := fun (i : Int) => (hs0.lr i).len
    have xb1 := xn_b (gl_ok hB (j : Int))
    have cb : mv_i (cwe A i q0 (j : Int)) := by { unfold cwe; split <;> omega }
    have hK : (mv_m 89).1 = kc_Counts_isWordBefore := rfl
    refine e_step (pc' := 45) hK rfl rfl rfl ?_
    refine e_step (pc' := 47) hK rfl rfl rfl ?_
    refine e_icmp (t := 70) (pc' := 50) hK rfl (by first | omega | exact bo_i _ | (have q1 := xn_b (gl_ok hB (j : Int)); have q2 : cwe A i q0 (j : Int) = q0 ∨ cwe A i q0 (j : Int) = xn (gl A (j : Int)) := by { unfold cwe; split; { exact Or.inl rfl }; { exact Or.inr rfl } }; omega)) (by first | omega | exact bo_i _ | (have q1 := xn_b (gl_ok hB (j : Int)); have q2 : cwe A i q0 (j : Int) = q0 ∨ cwe A i q0 (j : Int) = xn (gl A (j : Int)) := by { unfold cwe; split; { exact Or.inl rfl }; { exact Or.inr rfl } }; omega)) (by decide) rfl (fun hb47 => ?_) (fun hb47 => ?_)
    · replace hb47 := cq_ge.1.mp hb47
      try simp only [bo_0, Bool.not_eq_false] at hb47
      exact K (by rw [show (cwe A i q0 (j : Int)).toNat = q from by omega]; exact hf) _ _ _
    · replace hb47 := cq_ge.2.mp hb47
      try simp only [bo_0, Bool.not_eq_false] at hb47
      exfalso; first | omega | exact absurd trivial (by assumption) | (first | omega | exact bo_i _ | (have q1 := xn_b (gl_ok hB (j : Int)); have q2 : cwe A i q0 (j : Int) = q0 ∨ cwe A i q0 (j : Int) = xn (gl A (j : Int)) := by { unfold cwe; split; { exact Or.inl rfl }; { exact Or.inr rfl } }; omega))
  | succ m ih =>
    intro q ⟨hi, hf⟩
    have hs0 := hs
    obtain ⟨⟨s1, s2, t0, f0, f1, f2, f3, f4, ⟨t1, l1⟩, ⟨t2, l2⟩, ⟨t3, l3⟩, ⟨t4, l4⟩, hl0⟩, hB, fn, fT, gL', gP', gS', gO'⟩ := hs
    have b1 := hB.1
    have b2 := hB.2.1
    have qtg := fun (i : Int) => (hs0.lr i).tag
    have qfn := fun (i : Int) => (hs0.lr i).n
    have qln := fun (i : Int) => (hs0.lr i).len
    have xb1 := xn_b (gl_ok hB (j : Int))
    have cb : mv_i (cwe A i q0 (j : Int)) := by { unfold cwe; split <;> omega }
    have hK : (mv_m 89).1 = kc_Counts_isWordBefore := rfl
    refine e_step (pc' := 45) hK rfl rfl rfl ?_
    refine e_step (pc' := 47) hK rfl rfl rfl ?_
    refine e_icmp (t := 70) (pc' := 50) hK rfl (by first | omega | exact bo_i _ | (have q1 := xn_b (gl_ok hB (j : Int)); have q2 : cwe A i q0 (j : Int) = q0 ∨ cwe A i q0 (j : Int) = xn (gl A (j : Int)) := by { unfold cwe; split; { exact Or.inl rfl }; { exact Or.inr rfl } }; omega)) (by first | omega | exact bo_i _ | (have q1 := xn_b (gl_ok hB (j : Int)); have q2 : cwe A i q0 (j : Int) = q0 ∨ cwe A i q0 (j : Int) = xn (gl A (j : Int)) := by { unfold cwe; split; { exact Or.inl rfl }; { exact Or.inr rfl } }; omega)) (by decide) rfl (fun hb47 => ?_) (fun hb47 => ?_)
    · replace hb47 := cq_ge.1.mp hb47
      try simp only [bo_0, Bool.not_eq_false] at hb47
      exfalso; first | omega | exact absurd trivial (by assumption) | (first | omega | exact bo_i _ | (have q1 := xn_b (gl_ok hB (j : Int)); have q2 : cwe A i q0 (j : Int) = q0 ∨ cwe A i q0 (j : Int) = xn (gl A (j : Int)) := by { unfold cwe; split; { exact Or.inl rfl }; { exact Or.inr rfl } }; omega))
    · replace hb47 := cq_ge.2.mp hb47
      try simp only [bo_0, Bool.not_eq_false] at hb47
      refine e_step (pc' := 51) hK rfl rfl rfl ?_
      refine e_step (pc' := 52) hK rfl rfl rfl ?_
      refine e_step (pc' := 54) hK rfl rfl rfl ?_
      refine e_step (pc' := 56) hK rfl rfl rfl ?_
      refine e_cRV4 (z := 9) (pc' := 59) hK rfl rfl (by first | (simp (disch := omega) only [t0, f0, f1, f2, f3, f4, t1, l1, t2, l2, t3, l3, t4, l4, fn, fT, gP', qtg, qfn]; rfl) | (show _ = 2; assumption) | (show _ = 1; assumption) | (show _ = 0; assumption) | (show _ = 3; assumption) | (show _ = 4; assumption)) rfl (Nat.le_of_ble_eq_true rfl) (Nat.le_of_ble_eq_true rfl) (x_written (hs0.lr _) (hs0.lr _) _ _ hq0 (by omega)) (by decide) rfl ?_
      try simp (disch := omega) only [t0, f0, f1, f2, f3, f4, t1, l1, t2, l2, t3, l3, t4, l4, fn, fT, gP', qtg, qfn]
      refine e_if (t := 64) (pc' := 62) hK rfl (by first | omega | exact bo_i _ | (have q1 := xn_b (gl_ok hB (j : Int)); have q2 : cwe A i q0 (j : Int) = q0 ∨ cwe A i q0 (j : Int) = xn (gl A (j : Int)) := by { unfold cwe; split; { exact Or.inl rfl }; { exact Or.inr rfl } }; omega)) (by decide) rfl (fun hb59 => ?_) (fun hb59 => ?_)
      · replace hb59 := cq_eq.1.mp hb59
        try simp only [bo_0, Bool.not_eq_false] at hb59
        refine e_step (pc' := 67) hK rfl rfl rfl ?_
        try simp only [List.set_cons_zero, List.set_cons_succ]
        refine e_goto (t := 43) hK rfl (by decide) ?_
        exact ih (q + 1) ⟨by omega, lo_s hf hb59⟩
      · replace hb59 := cq_eq.2.mp hb59
        try simp only [bo_0, Bool.not_eq_false] at hb59
        refine e_step (pc' := 63) hK rfl rfl rfl ?_
        refine e_ret hK rfl rfl (by first | rfl | (simp only [mv_ret]; rw [if_pos]; exact Or.inr ⟨rfl, by omega⟩)) ?_
        refine ⟨?_, rfl, rfl⟩
        congr 1
        unfold cwb
        rw [lo_t (i := j) (show lo _ _ = true from lo_t (i := q) hb59 (by omega)) (by omega)]
        rfl
set_option maxRecDepth 10000 in
theorem c_wbO {s : Int} {A : lg} (hs : StA h s A) (i q0 : Int) (hi0 : 0 ≤ i) (hi1 : i < gn A) (hq0 : mv_i q0) : ∀ (m : Nat) (j : Nat) (a5 a6 a7 : mv_V), j + m = (i + 1).toNat ∧ lo (fun j => lo (fun q => xw (gl A i) q0 (gl A j) q) (cwe A i q0 j).toNat) j = false → mv_Ev sc 89 9 [(2, s), (0, i), (0, q0), (2, lrf h s A i), (0, (j : Int)), a5, a6, a7] [] c h (mv_Rd (0, mv_bo (cwb A i q0)) c h) := by
  intro m
  induction m with
  | zero =>
    intro j a5 a6 a7 ⟨hi, hf⟩
    have hs0 := hs
    obtain ⟨⟨s1, s2, t0, f0, f1, f2, f3, f4, ⟨t1, l1⟩, ⟨t2, l2⟩, ⟨t3, l3⟩, ⟨t4, l4⟩, hl0⟩, hB, fn, fT, gL', gP', gS', gO'⟩ := hs
    have b1 := hB.1
    have b2 := hB.2.1
    have qtg := fun (i : Int) => (hs0.lr i).tag
    have qfn := fun (i : Int) => (hs0.lr i).n
    have qln := fun (i : Int) => (hs0.lr i).len
    have xb1 := xn_b (gl_ok hB (j : Int))
    have cb : mv_i (cwe A i q0 (j : Int)) := by { unfold cwe; split <;> omega }
    have hK : (mv_m 89).1 = kc_Counts_isWordBefore := rfl
    refine e_step (pc' := 11) hK rfl rfl rfl ?_
    refine e_step (pc' := 12) hK rfl rfl rfl ?_
    refine e_icmp (t := 76) (pc' := 15) hK rfl (by first | omega | exact bo_i _ | (have q1 := xn_b (gl_ok hB (j : Int)); have q2 : cwe A i q0 (j : Int) = q0 ∨ cwe A i q0 (j : Int) = xn (gl A (j : Int)) := by { unfold cwe; split; { exact Or.inl rfl }; { exact Or.inr rfl } }; omega)) (by first | omega | exact bo_i _ | (have q1 := xn_b (gl_ok hB (j : Int)); have q2 : cwe A i q0 (j : Int) = q0 ∨ cwe A i q0 (j : Int) = xn (gl A (j : Int)) := by { unfold cwe; split; { exact Or.inl rfl }; { exact Or.inr rfl } }; omega)) (by decide) rfl (fun hb12 => ?_) (fun hb12 => ?_)
    · replace hb12 := cq_gt.1.mp hb12
      try simp only [bo_0, Bool.not_eq_false] at hb12
      refine e_step (pc' := 77) hK rfl rfl rfl ?_
      refine e_ret hK rfl rfl (by first | rfl | (simp only [mv_ret]; rw [if_pos]; exact Or.inr ⟨rfl, by omega⟩)) ?_
      refine ⟨?_, rfl, rfl⟩
      congr 1
      unfold cwb
      rw [show (i + 1).toNat = j from by omega, hf]
      rfl
    · replace hb12 := cq_gt.2.mp hb12
      try simp only [bo_0, Bool.not_eq_false] at hb12
      exfalso; first | omega | exact absurd trivial (by assumption) | (first | omega | exact bo_i _ | (have q1 := xn_b (gl_ok hB (j : Int)); have q2 : cwe A i q0 (j : Int) = q0 ∨ cwe A i q0 (j : Int) = xn (gl A (j : Int)) := by { unfold cwe; split; { exact Or.inl rfl }; { exact Or.inr rfl } }; omega))
  | succ m ih =>
    intro j a5 a6 a7 ⟨hi, hf⟩
    have hs0 := hs
    obtain ⟨⟨s1, s2, t0, f0, f1, f2, f3, f4, ⟨t1, l1⟩, ⟨t2, l2⟩, ⟨t3, l3⟩, ⟨t4, l4⟩, hl0⟩, hB, fn, fT, gL', gP', gS', gO'⟩ := hs
    have b1 := hB.1
    have b2 := hB.2.1
    have qtg := fun (i : Int) => (hs0.lr i).tag
    have qfn := fun (i : Int) => (hs0.lr i).n
    have qln := fun (i : Int) => (hs0.lr i).len
    have xb1 := xn_b (gl_ok hB (j : Int))
    have cb : mv_i (cwe A i q0 (j : Int)) := by { unfold cwe; split <;> omega }
    have hK : (mv_m 89).1 = kc_Counts_isWordBefore := rfl
    refine e_step (pc' := 11) hK rfl rfl rfl ?_
    refine e_step (pc' := 12) hK rfl rfl rfl ?_
    refine e_icmp (t := 76) (pc' := 15) hK rfl (by first | omega | exact bo_i _ | (have q1 := xn_b (gl_ok hB (j : Int)); have q2 : cwe A i q0 (j : Int) = q0 ∨ cwe A i q0 (j : Int) = xn (gl A (j : Int)) := by { unfold cwe; split; { exact Or.inl rfl }; { exact Or.inr rfl } }; omega)) (by first | omega | exact bo_i _ | (have q1 := xn_b (gl_ok hB (j : Int)); have q2 : cwe A i q0 (j : Int) = q0 ∨ cwe A i q0 (j : Int) = xn (gl A (j : Int)) := by { unfold cwe; split; { exact Or.inl rfl }; { exact Or.inr rfl } }; omega)) (by decide) rfl (fun hb12 => ?_) (fun hb12 => ?_)
    · replace hb12 := cq_gt.1.mp hb12
      try simp only [bo_0, Bool.not_eq_false] at hb12
      exfalso; first | omega | exact absurd trivial (by assumption) | (first | omega | exact bo_i _ | (have q1 := xn_b (gl_ok hB (j : Int)); have q2 : cwe A i q0 (j : Int) = q0 ∨ cwe A i q0 (j : Int) = xn (gl A (j : Int)) := by { unfold cwe; split; { exact Or.inl rfl }; { exact Or.inr rfl } }; omega))
    · replace hb12 := cq_gt.2.mp hb12
      try simp only [bo_0, Bool.not_eq_false] at hb12
      refine e_step (pc' := 16) hK rfl rfl rfl ?_
      refine e_step (pc' := 18) hK rfl rfl rfl ?_
      refine e_cRV2 (z := 26) (pc' := 21) hK rfl rfl (by first | (simp (disch := omega) only [t0, f0, f1, f2, f3, f4, t1, l1, t2, l2, t3, l3, t4, l4, fn, fT, gP', qtg, qfn]; rfl) | (show _ = 2; assumption) | (show _ = 1; assumption) | (show _ = 0; assumption) | (show _ = 3; assumption) | (show _ = 4; assumption)) rfl (Nat.le_of_ble_eq_true rfl) (Nat.le_of_ble_eq_true rfl) (c_lineAt hs0 _ (by omega)) (by decide) rfl ?_
      try simp (disch := omega) only [t0, f0, f1, f2, f3, f4, t1, l1, t2, l2, t3, l3, t4, l4, fn, fT, gP', qtg, qfn]
      refine e_step (pc' := 23) hK rfl rfl rfl ?_
      try simp only [List.set_cons_zero, List.set_cons_succ]
      refine e_step (pc' := 25) hK rfl rfl rfl ?_
      refine e_step (pc' := 26) hK rfl rfl rfl ?_
      refine e_icmp (t := 33) (pc' := 29) hK rfl (by first | omega | exact bo_i _ | (have q1 := xn_b (gl_ok hB (j : Int)); have q2 : cwe A i q0 (j : Int) = q0 ∨ cwe A i q0 (j : Int) = xn (gl A (j : Int)) := by { unfold cwe; split; { exact Or.inl rfl }; { exact Or.inr rfl } }; omega)) (by first | omega | exact bo_i _ | (have q1 := xn_b (gl_ok hB (j : Int)); have q2 : cwe A i q0 (j : Int) = q0 ∨ cwe A i q0 (j : Int) = xn (gl A (j : Int)) := by { unfold cwe; split; { exact Or.inl rfl }; { exact Or.inr rfl } }; omega)) (by decide) rfl (fun hb26 => ?_) (fun hb26 => ?_)
      · replace hb26 := cq_ne.1.mp hb26
        try simp only [bo_0, Bool.not_eq_false] at hb26
        refine e_step (pc' := 35) hK rfl rfl rfl ?_
        refine e_getI (ci := 1) (k := 6) (pc' := 38) hK rfl (by simp (disch := omega) only [t0, f0, f1, f2, f3, f4, t1, l1, t2, l2, t3, l3, t4, l4, fn, fT, gP', qtg, qfn]) rfl rfl (by decide) (by decide) rfl ?_
        try simp (disch := omega) only [t0, f0, f1, f2, f3, f4, t1, l1, t2, l2, t3, l3, t4, l4, fn, fT, gP', qtg, qfn]
        refine e_step (pc' := 40) hK rfl rfl rfl ?_
        try simp only [List.set_cons_zero, List.set_cons_succ]
        refine e_step (pc' := 41) hK rfl rfl rfl ?_
        refine e_step (pc' := 43) hK rfl rfl rfl ?_
        try simp only [List.set_cons_zero, List.set_cons_succ]
        have e : cwe A i q0 (j : Int) = _ := by { unfold cwe; exact if_neg hb26 }
        have q9 := c_wbI (sc := sc) (c := c) hs0 i q0 hi0 hi1 hq0 j (by omega) (fun hq a5 a6 a7 => by
          refine e_step (pc' := 73) hK rfl rfl rfl ?_
          refine e_goto (t := 9) hK rfl (by decide) ?_
          exact ih (j + 1) _ _ _ ⟨by omega, lo_s hf hq⟩) (cwe A i q0 (j : Int)).toNat 0 ⟨by omega, rfl⟩
        rw [e] at q9
        exact q9
      · replace hb26 := cq_ne.2.mp hb26
        try simp only [bo_0, Bool.not_eq_false] at hb26
        refine e_step (pc' := 30) hK rfl rfl rfl ?_
        refine e_goto (t := 38) hK rfl (by decide) ?_
        refine e_step (pc' := 40) hK rfl rfl rfl ?_
        try simp only [List.set_cons_zero, List.set_cons_succ]
        refine e_step (pc' := 41) hK rfl rfl rfl ?_
        refine e_step (pc' := 43) hK rfl rfl rfl ?_
        try simp only [List.set_cons_zero, List.set_cons_succ]
        have e : cwe A i q0 (j : Int) = _ := by { unfold cwe; exact if_pos hb26 }
        have q9 := c_wbI (sc := sc) (c := c) hs0 i q0 hi0 hi1 hq0 j (by omega) (fun hq a5 a6 a7 => by
          refine e_step (pc' := 73) hK rfl rfl rfl ?_
          refine e_goto (t := 9) hK rfl (by decide) ?_
          exact ih (j + 1) _ _ _ ⟨by omega, lo_s hf hq⟩) (cwe A i q0 (j : Int)).toNat 0 ⟨by omega, rfl⟩
        rw [e] at q9
        exact q9
set_option maxRecDepth 10000 in
theorem c_wb {s : Int} {A : lg} (hs : StA h s A) (i q0 : Int) (hi0 : 0 ≤ i) (hi1 : i < gn A) (hq0 : mv_i q0) : mv_Cl sc q_Counts_isWordBefore [(2, s), (0, i), (0, q0)] c h (mv_Rd (0, mv_bo (cwb A i q0)) c h) := by
  have hs0 := hs
  obtain ⟨⟨s1, s2, t0, f0, f1, f2, f3, f4, ⟨t1, l1⟩, ⟨t2, l2⟩, ⟨t3, l3⟩, ⟨t4, l4⟩, hl0⟩, hB, fn, fT, gL', gP', gS', gO'⟩ := hs
  have b1 := hB.1
  have b2 := hB.2.1
  show mv_Ev sc 89 0 [(2, s), (0, i), (0, q0), (5, 0), (5, 0), (5, 0), (5, 0), (5, 0)] [] c h _
  have hK : (mv_m 89).1 = kc_Counts_isWordBefore := rfl
  refine e_step (pc' := 1) hK rfl rfl rfl ?_
  refine e_step (pc' := 2) hK rfl rfl rfl ?_
  refine e_cRV2 (z := 26) (pc' := 5) hK rfl rfl (by first | (simp (disch := omega) only [t0, f0, f1, f2, f3, f4, t1, l1, t2, l2, t3, l3, t4, l4, fn, fT, gP']; rfl) | (show _ = 2; assumption) | (show _ = 1; assumption) | (show _ = 0; assumption) | (show _ = 3; assumption) | (show _ = 4; assumption)) rfl (Nat.le_of_ble_eq_true rfl) (Nat.le_of_ble_eq_true rfl) (c_lineAt hs0 i (by omega)) (by decide) rfl ?_
  try simp (disch := omega) only [t0, f0, f1, f2, f3, f4, t1, l1, t2, l2, t3, l3, t4, l4, fn, fT, gP']
  refine e_step (pc' := 6) hK rfl rfl rfl ?_
  try simp only [List.set_cons_zero, List.set_cons_succ]
  refine e_step (pc' := 7) hK rfl rfl rfl ?_
  refine e_step (pc' := 9) hK rfl rfl rfl ?_
  try simp only [List.set_cons_zero, List.set_cons_succ]
  exact c_wbO hs0 i q0 hi0 hi1 hq0 (i + 1).toNat 0 _ _ _ ⟨by omega, rfl⟩
set_option maxRecDepth 10000 in
theorem c_dwI {s : Int} {A : lg} (hs : StA h s A) (i : Nat) (hj : i < gn A) (K : ∀ (a3 a4 : mv_V), mv_Ev sc 88 58 [(2, s), (0, lsum (fun i => lc (fun p => decide (xk (gl A i) p = 0) && !cwb A i p) (xn (gl A i)).toNat) i + lc (fun p => decide (xk (gl A (i : Int)) p = 0) && !cwb A (i : Int) p) (xn (gl A (i : Int))).toNat), (0, (i : Int)), a3, a4] [] c h (mv_Rd (0, cdw A) c h)) : ∀ (m : Nat) (q : Nat), q + m = (xn (gl A (i : Int))).toNat → mv_Ev sc 88 21 [(2, s), (0, lsum (fun i => lc (fun p => decide (xk (gl A i) p = 0) && !cwb A i p) (xn (gl A i)).toNat) i + lc (fun p => decide (xk (gl A (i : Int)) p = 0) && !cwb A (i : Int) p) q), (0, (i : Int)), (2, lrf h s A (i : Int)), (0, (q : Int))] [] c h (mv_Rd (0, cdw A) c h) := by
  intro m
  induction m with
  | zero =>
    intro q hi
    have hs0 := hs
    obtain ⟨⟨s1, s2, t0, f0, f1, f2, f3, f4, ⟨t1, l1⟩, ⟨t2, l2⟩, ⟨t3, l3⟩, ⟨t4, l4⟩, hl0⟩, hB, fn, fT, gL', gP', gS', gO'⟩ := hs
    have b1 := hB.1
    have b2 := hB.2.1
    have qtg := fun (i : Int) => (hs0.lr i).tag
    have qfn := fun (i : Int) => (hs0.lr i).n
    have qln := fun (i : Int) => (hs0.lr i).len
    have xb1 := xn_b (gl_ok hB (i : Int))
    have hK : (mv_m 88).1 = kc_Counts_differentWords := rfl
    refine e_step (pc' := 23) hK rfl rfl rfl ?_
    refine e_step (pc' := 24) hK rfl rfl rfl ?_
    refine e_getI (ci := 1) (k := 6) (pc' := 27) hK rfl (by simp (disch := omega) only [t0, f0, f1, f2, f3, f4, t1, l1, t2, l2, t3, l3, t4, l4, fn, fT, gP', qtg, qfn]) rfl rfl (by decide) (by decide) rfl ?_
    try simp (disch := omega) only [t0, f0, f1, f2, f3, f4, t1, l1, t2, l2, t3, l3, t4, l4, fn, fT, gP', qtg, qfn]
    refine e_icmp (t := 58) (pc' := 30) hK rfl (by first | omega | exact bo_i _ | (have q1 := xk_b (gl_ok hB (i : Int)) (q : Int); omega) | (have q1 := xn_b (gl_ok hB (i : Int)); omega)) (by first | omega | exact bo_i _ | (have q1 := xk_b (gl_ok hB (i : Int)) (q : Int); omega) | (have q1 := xn_b (gl_ok hB (i : Int)); omega)) (by decide) rfl (fun hb27 => ?_) (fun hb27 => ?_)
    · replace hb27 := cq_ge.1.mp hb27
      try simp only [bo_0, Bool.not_eq_false] at hb27
      have q9 := K (2, lrf h s A (i : Int)) (0, (q : Int))
      rw [show (xn (gl A (i : Int))).toNat = q from by omega] at q9
      exact q9
    · replace hb27 := cq_ge.2.mp hb27
      try simp only [bo_0, Bool.not_eq_false] at hb27
      exfalso; first | omega | exact absurd trivial (by assumption) | (first | omega | exact bo_i _ | (have q1 := xk_b (gl_ok hB (i : Int)) (q : Int); omega) | (have q1 := xn_b (gl_ok hB (i : Int)); omega))
  | succ m ih =>
    intro q hi
    have hs0 := hs
    obtain ⟨⟨s1, s2, t0, f0, f1, f2, f3, f4, ⟨t1, l1⟩, ⟨t2, l2⟩, ⟨t3, l3⟩, ⟨t4, l4⟩, hl0⟩, hB, fn, fT, gL', gP', gS', gO'⟩ := hs
    have b1 := hB.1
    have b2 := hB.2.1
    have qtg := fun (i : Int) => (hs0.lr i).tag
    have qfn := fun (i : Int) => (hs0.lr i).n
    have qln := fun (i : Int) => (hs0.lr i).len
    have xb1 := xn_b (gl_ok hB (i : Int))
    have hK : (mv_m 88).1 = kc_Counts_differentWords := rfl
    refine e_step (pc' := 23) hK rfl rfl rfl ?_
    refine e_step (pc' := 24) hK rfl rfl rfl ?_
    refine e_getI (ci := 1) (k := 6) (pc' := 27) hK rfl (by simp (disch := omega) only [t0, f0, f1, f2, f3, f4, t1, l1, t2, l2, t3, l3, t4, l4, fn, fT, gP', qtg, qfn]) rfl rfl (by decide) (by decide) rfl ?_
    try simp (disch := omega) only [t0, f0, f1, f2, f3, f4, t1, l1, t2, l2, t3, l3, t4, l4, fn, fT, gP', qtg, qfn]
    refine e_icmp (t := 58) (pc' := 30) hK rfl (by first | omega | exact bo_i _ | (have q1 := xk_b (gl_ok hB (i : Int)) (q : Int); omega) | (have q1 := xn_b (gl_ok hB (i : Int)); omega)) (by first | omega | exact bo_i _ | (have q1 := xk_b (gl_ok hB (i : Int)) (q : Int); omega) | (have q1 := xn_b (gl_ok hB (i : Int)); omega)) (by decide) rfl (fun hb27 => ?_) (fun hb27 => ?_)
    · replace hb27 := cq_ge.1.mp hb27
      try simp only [bo_0, Bool.not_eq_false] at hb27
      exfalso; first | omega | exact absurd trivial (by assumption) | (first | omega | exact bo_i _ | (have q1 := xk_b (gl_ok hB (i : Int)) (q : Int); omega) | (have q1 := xn_b (gl_ok hB (i : Int)); omega))
    · replace hb27 := cq_ge.2.mp hb27
      try simp only [bo_0, Bool.not_eq_false] at hb27
      refine e_step (pc' := 31) hK rfl rfl rfl ?_
      refine e_step (pc' := 33) hK rfl rfl rfl ?_
      refine e_cRV2 (z := 8) (pc' := 36) hK rfl rfl (by first | (simp (disch := omega) only [t0, f0, f1, f2, f3, f4, t1, l1, t2, l2, t3, l3, t4, l4, fn, fT, gP', qtg, qfn]; rfl) | (show _ = 2; assumption) | (show _ = 1; assumption) | (show _ = 0; assumption) | (show _ = 3; assumption) | (show _ = 4; assumption)) rfl (Nat.le_of_ble_eq_true rfl) (Nat.le_of_ble_eq_true rfl) (x_kindAt (hs0.lr _) _ (by omega)) (by decide) rfl ?_
      try simp (disch := omega) only [t0, f0, f1, f2, f3, f4, t1, l1, t2, l2, t3, l3, t4, l4, fn, fT, gP', qtg, qfn]
      refine e_if (t := 52) (pc' := 39) hK rfl (by first | omega | exact bo_i _ | (have q1 := xk_b (gl_ok hB (i : Int)) (q : Int); omega) | (have q1 := xn_b (gl_ok hB (i : Int)); omega)) (by decide) rfl (fun hb36 => ?_) (fun hb36 => ?_)
      · replace hb36 := cq_ne.1.mp hb36
        try simp only [bo_0, Bool.not_eq_false] at hb36
        refine e_step (pc' := 55) hK rfl rfl rfl ?_
        try simp only [List.set_cons_zero, List.set_cons_succ]
        refine e_goto (t := 21) hK rfl (by decide) ?_
        have q9 := ih (q + 1) (by omega)
        rw [lc_f (i := q) (by rw [decide_eq_false hb36, Bool.false_and])] at q9
        try simp only [← Int.add_assoc] at q9
        exact q9
      · replace hb36 := cq_ne.2.mp hb36
        try simp only [bo_0, Bool.not_eq_false] at hb36
        refine e_step (pc' := 40) hK rfl rfl rfl ?_
        refine e_step (pc' := 41) hK rfl rfl rfl ?_
        refine e_step (pc' := 43) hK rfl rfl rfl ?_
        refine e_cRS3 (z := 89) (pc' := 46) hK rfl rfl rfl (Nat.le_of_ble_eq_true rfl) (Nat.le_of_ble_eq_true rfl) (c_wb hs0 _ _ (by omega) (by omega) (by omega)) (by decide) rfl ?_
        try simp (disch := omega) only [t0, f0, f1, f2, f3, f4, t1, l1, t2, l2, t3, l3, t4, l4, fn, fT, gP', qtg, qfn]
        refine e_if (t := 52) (pc' := 49) hK rfl (by first | omega | exact bo_i _ | (have q1 := xk_b (gl_ok hB (i : Int)) (q : Int); omega) | (have q1 := xn_b (gl_ok hB (i : Int)); omega)) (by decide) rfl (fun hb46 => ?_) (fun hb46 => ?_)
        · replace hb46 := cq_ne.1.mp hb46
          try simp only [bo_0, Bool.not_eq_false] at hb46
          refine e_step (pc' := 55) hK rfl rfl rfl ?_
          try simp only [List.set_cons_zero, List.set_cons_succ]
          refine e_goto (t := 21) hK rfl (by decide) ?_
          have q9 := ih (q + 1) (by omega)
          rw [lc_f (i := q) (by rw [hb46]; exact Bool.and_false _)] at q9
          try simp only [← Int.add_assoc] at q9
          exact q9
        · replace hb46 := cq_ne.2.mp hb46
          try simp only [bo_0, Bool.not_eq_false] at hb46
          refine e_step (pc' := 52) hK rfl rfl rfl ?_
          try simp only [List.set_cons_zero, List.set_cons_succ]
          refine e_step (pc' := 55) hK rfl rfl rfl ?_
          try simp only [List.set_cons_zero, List.set_cons_succ]
          refine e_goto (t := 21) hK rfl (by decide) ?_
          have q9 := ih (q + 1) (by omega)
          rw [lc_t (i := q) (by rw [decide_eq_true hb36, hb46]; rfl)] at q9
          try simp only [← Int.add_assoc] at q9
          exact q9
set_option maxRecDepth 10000 in
theorem c_dwO {s : Int} {A : lg} (hs : StA h s A) : ∀ (m : Nat) (i : Nat) (a3 a4 : mv_V), i + m = gn A → mv_Ev sc 88 4 [(2, s), (0, lsum (fun i => lc (fun p => decide (xk (gl A i) p = 0) && !cwb A i p) (xn (gl A i)).toNat) i), (0, (i : Int)), a3, a4] [] c h (mv_Rd (0, cdw A) c h) := by
  intro m
  induction m with
  | zero =>
    intro i a3 a4 hi
    have hs0 := hs
    obtain ⟨⟨s1, s2, t0, f0, f1, f2, f3, f4, ⟨t1, l1⟩, ⟨t2, l2⟩, ⟨t3, l3⟩, ⟨t4, l4⟩, hl0⟩, hB, fn, fT, gL', gP', gS', gO'⟩ := hs
    have b1 := hB.1
    have b2 := hB.2.1
    have qtg := fun (i : Int) => (hs0.lr i).tag
    have qfn := fun (i : Int) => (hs0.lr i).n
    have qln := fun (i : Int) => (hs0.lr i).len
    have hK : (mv_m 88).1 = kc_Counts_differentWords := rfl
    refine e_step (pc' := 5) hK rfl rfl rfl ?_
    refine e_step (pc' := 6) hK rfl rfl rfl ?_
    refine e_getI (ci := 2) (k := 5) (pc' := 9) hK rfl (by simp (disch := omega) only [t0, f0, f1, f2, f3, f4, t1, l1, t2, l2, t3, l3, t4, l4, fn, fT, gP', qtg, qfn]) rfl rfl (by decide) (by decide) rfl ?_
    try simp (disch := omega) only [t0, f0, f1, f2, f3, f4, t1, l1, t2, l2, t3, l3, t4, l4, fn, fT, gP', qtg, qfn]
    refine e_icmp (t := 64) (pc' := 12) hK rfl (by omega) (by omega) (by decide) rfl (fun hb9 => ?_) (fun hb9 => ?_)
    · replace hb9 := cq_ge.1.mp hb9
      refine e_step (pc' := 65) hK rfl rfl rfl ?_
      refine e_ret hK rfl rfl rfl ?_
      refine ⟨?_, rfl, rfl⟩
      congr 1
      unfold cdw
      rw [show gn A = i from by omega]
    · replace hb9 := cq_ge.2.mp hb9
      exfalso; first | omega | exact absurd trivial (by assumption)
  | succ m ih =>
    intro i a3 a4 hi
    have hs0 := hs
    obtain ⟨⟨s1, s2, t0, f0, f1, f2, f3, f4, ⟨t1, l1⟩, ⟨t2, l2⟩, ⟨t3, l3⟩, ⟨t4, l4⟩, hl0⟩, hB, fn, fT, gL', gP', gS', gO'⟩ := hs
    have b1 := hB.1
    have b2 := hB.2.1
    have qtg := fun (i : Int) => (hs0.lr i).tag
    have qfn := fun (i : Int) => (hs0.lr i).n
    have qln := fun (i : Int) => (hs0.lr i).len
    have hK : (mv_m 88).1 = kc_Counts_differentWords := rfl
    refine e_step (pc' := 5) hK rfl rfl rfl ?_
    refine e_step (pc' := 6) hK rfl rfl rfl ?_
    refine e_getI (ci := 2) (k := 5) (pc' := 9) hK rfl (by simp (disch := omega) only [t0, f0, f1, f2, f3, f4, t1, l1, t2, l2, t3, l3, t4, l4, fn, fT, gP', qtg, qfn]) rfl rfl (by decide) (by decide) rfl ?_
    try simp (disch := omega) only [t0, f0, f1, f2, f3, f4, t1, l1, t2, l2, t3, l3, t4, l4, fn, fT, gP', qtg, qfn]
    refine e_icmp (t := 64) (pc' := 12) hK rfl (by omega) (by omega) (by decide) rfl (fun hb9 => ?_) (fun hb9 => ?_)
    · replace hb9 := cq_ge.1.mp hb9
      exfalso; first | omega | exact absurd trivial (by assumption)
    · replace hb9 := cq_ge.2.mp hb9
      refine e_step (pc' := 13) hK rfl rfl rfl ?_
      refine e_step (pc' := 14) hK rfl rfl rfl ?_
      refine e_cRV2 (z := 26) (pc' := 17) hK rfl rfl (by first | (simp (disch := omega) only [t0, f0, f1, f2, f3, f4, t1, l1, t2, l2, t3, l3, t4, l4, fn, fT, gP', qtg, qfn]; rfl) | (show _ = 2; assumption) | (show _ = 1; assumption) | (show _ = 0; assumption) | (show _ = 3; assumption) | (show _ = 4; assumption)) rfl (Nat.le_of_ble_eq_true rfl) (Nat.le_of_ble_eq_true rfl) (c_lineAt hs0 _ (by omega)) (by decide) rfl ?_
      try simp (disch := omega) only [t0, f0, f1, f2, f3, f4, t1, l1, t2, l2, t3, l3, t4, l4, fn, fT, gP', qtg, qfn]
      refine e_step (pc' := 18) hK rfl rfl rfl ?_
      try simp only [List.set_cons_zero, List.set_cons_succ]
      refine e_step (pc' := 19) hK rfl rfl rfl ?_
      refine e_step (pc' := 21) hK rfl rfl rfl ?_
      try simp only [List.set_cons_zero, List.set_cons_succ]
      have q9 := c_dwI (sc := sc) (c := c) hs0 i (by omega) (fun a3 a4 => by
        refine e_step (pc' := 61) hK rfl rfl rfl ?_
        refine e_goto (t := 4) hK rfl (by decide) ?_
        exact ih (i + 1) _ _ (by omega)) (xn (gl A (i : Int))).toNat 0 (by omega)
      rw [show lc (fun p => decide (xk (gl A (i : Int)) p = 0) && !cwb A (i : Int) p) 0 = 0 from rfl, Int.add_zero] at q9
      exact q9
set_option maxRecDepth 10000 in
theorem c_dw {s : Int} {A : lg} (hs : StA h s A) : mv_Cl sc q_Counts_differentWords [(2, s)] c h (mv_Rd (0, cdw A) c h) := by
  have hs0 := hs
  obtain ⟨⟨s1, s2, t0, f0, f1, f2, f3, f4, ⟨t1, l1⟩, ⟨t2, l2⟩, ⟨t3, l3⟩, ⟨t4, l4⟩, hl0⟩, hB, fn, fT, gL', gP', gS', gO'⟩ := hs
  have b1 := hB.1
  have b2 := hB.2.1
  show mv_Ev sc 88 0 [(2, s), (5, 0), (5, 0), (5, 0), (5, 0)] [] c h _
  have hK : (mv_m 88).1 = kc_Counts_differentWords := rfl
  refine e_step (pc' := 1) hK rfl rfl rfl ?_
  refine e_step (pc' := 2) hK rfl rfl rfl ?_
  try simp only [List.set_cons_zero, List.set_cons_succ]
  refine e_step (pc' := 3) hK rfl rfl rfl ?_
  refine e_step (pc' := 4) hK rfl rfl rfl ?_
  try simp only [List.set_cons_zero, List.set_cons_succ]
  exact c_dwO hs0 (gn A) 0 _ _ (by omega)
set_option maxRecDepth 10000 in
theorem c_digits1 (v : Int) (hv : 0 ≤ v) (hv2 : mv_i v) : ∀ (m : Nat) (d : Nat), d + m = 10 → mv_Ev sc 68 7 [(0, v), (0, (d : Int)), (0, px_10 v d)] [] c h (mv_Rd (0, (px_dg v m d : Nat)) c h) := by
  intro m
  induction m with
  | zero =>
    intro d hi
    have b1 := px_10b hv d
    have hK : (mv_m 68).1 = kc_LT_countDigits := rfl
    refine e_step (pc' := 8) hK rfl rfl rfl ?_
    refine e_if (t := 28) (pc' := 11) hK rfl (by omega) (by decide) rfl (fun hb8 => ?_) (fun hb8 => ?_)
    · replace hb8 := cq_le.1.mp hb8
      refine e_step (pc' := 29) hK rfl rfl rfl ?_
      refine e_ret hK rfl rfl rfl ?_
      first | exact ⟨rfl, rfl, rfl⟩ | (refine ⟨?_, rfl, rfl⟩; congr 1; unfold px_dg; rw [if_pos hb8])
    · replace hb8 := cq_le.2.mp hb8
      refine e_step (pc' := 12) hK rfl rfl rfl ?_
      refine e_step (pc' := 14) hK rfl rfl rfl ?_
      refine e_icmp (t := 28) (pc' := 17) hK rfl (by omega) (by omega) (by decide) rfl (fun hb14 => ?_) (fun hb14 => ?_)
      · replace hb14 := cq_ge.1.mp hb14
        refine e_step (pc' := 29) hK rfl rfl rfl ?_
        refine e_ret hK rfl rfl rfl ?_
        first | exact ⟨rfl, rfl, rfl⟩ | (refine ⟨?_, rfl, rfl⟩; congr 1; unfold px_dg; rw [if_pos hb8])
      · replace hb14 := cq_ge.2.mp hb14
        exfalso; first | omega | exact absurd trivial (by assumption)
  | succ m ih =>
    intro d hi
    have b1 := px_10b hv d
    have hK : (mv_m 68).1 = kc_LT_countDigits := rfl
    refine e_step (pc' := 8) hK rfl rfl rfl ?_
    refine e_if (t := 28) (pc' := 11) hK rfl (by omega) (by decide) rfl (fun hb8 => ?_) (fun hb8 => ?_)
    · replace hb8 := cq_le.1.mp hb8
      refine e_step (pc' := 29) hK rfl rfl rfl ?_
      refine e_ret hK rfl rfl rfl ?_
      first | exact ⟨rfl, rfl, rfl⟩ | (refine ⟨?_, rfl, rfl⟩; congr 1; unfold px_dg; rw [if_pos hb8])
    · replace hb8 := cq_le.2.mp hb8
      refine e_step (pc' := 12) hK rfl rfl rfl ?_
      refine e_step (pc' := 14) hK rfl rfl rfl ?_
      refine e_icmp (t := 28) (pc' := 17) hK rfl (by omega) (by omega) (by decide) rfl (fun hb14 => ?_) (fun hb14 => ?_)
      · replace hb14 := cq_ge.1.mp hb14
        exfalso; first | omega | exact absurd trivial (by assumption)
      · replace hb14 := cq_ge.2.mp hb14
        refine e_step (pc' := 20) hK rfl rfl rfl ?_
        try simp only [List.set_cons_zero, List.set_cons_succ]
        refine e_step (pc' := 21) hK rfl rfl rfl ?_
        refine e_step (pc' := 23) hK rfl rfl rfl ?_
        refine e_idiv (pc' := 24) hK rfl (by omega) (by omega) (by omega) rfl ?_
        refine e_step (pc' := 25) hK rfl rfl rfl ?_
        try simp only [List.set_cons_zero, List.set_cons_succ]
        refine e_goto (t := 7) hK rfl (by decide) ?_
        have q9 := ih (d + 1) (by omega)
        rw [show px_dg v m (d + 1) = px_dg v (m + 1) d from (if_neg (show ¬ px_10 v d ≤ 0 by omega)).symm] at q9
        exact q9
set_option maxRecDepth 10000 in
theorem c_digits (v : Int) (hv : 0 ≤ v) (hv2 : mv_i v) : mv_Cl sc q_LT_countDigits [(0, v)] c h (mv_Rd (0, dgn v) c h) := by
  show mv_Ev sc 68 0 [(0, v), (5, 0), (5, 0)] [] c h _
  have hK : (mv_m 68).1 = kc_LT_countDigits := rfl
  refine e_step (pc' := 1) hK rfl rfl rfl ?_
  refine e_step (pc' := 2) hK rfl rfl rfl ?_
  try simp only [List.set_cons_zero, List.set_cons_succ]
  refine e_step (pc' := 3) hK rfl rfl rfl ?_
  refine e_step (pc' := 5) hK rfl rfl rfl ?_
  refine e_idiv (pc' := 6) hK rfl (by omega) (by omega) (by omega) rfl ?_
  refine e_step (pc' := 7) hK rfl rfl rfl ?_
  try simp only [List.set_cons_zero, List.set_cons_succ]
  exact c_digits1 v hv hv2 9 1 rfl
set_option maxRecDepth 10000 in
theorem c_digit1 (v b : Int) (hv : 0 ≤ v) (hv2 : mv_i v) (hb : mv_i b) : ∀ (m : Nat) (i : Nat), i + m = b.toNat → mv_Ev sc 69 4 [(0, v), (0, b), (0, px_10 v i), (0, (i : Int))] [] c h (mv_Rd (0, dgc v b) c h) := by
  intro m
  induction m with
  | zero =>
    intro i hi
    have b1 := px_10b hv i
    have hK : (mv_m 69).1 = kc_LT_digitCharacter := rfl
    refine e_step (pc' := 5) hK rfl rfl rfl ?_
    refine e_step (pc' := 6) hK rfl rfl rfl ?_
    refine e_icmp (t := 24) (pc' := 9) hK rfl (by omega) (by omega) (by decide) rfl (fun hb6 => ?_) (fun hb6 => ?_)
    · replace hb6 := cq_ge.1.mp hb6
      refine e_step (pc' := 26) hK rfl rfl rfl ?_
      refine e_step (pc' := 27) hK rfl rfl rfl ?_
      refine e_step (pc' := 29) hK rfl rfl rfl ?_
      refine e_irem (pc' := 30) hK rfl (by omega) (by omega) (by omega) rfl ?_
      refine e_step (pc' := 31) hK rfl rfl rfl ?_
      refine e_ret hK rfl rfl rfl ?_
      refine ⟨?_, rfl, rfl⟩
      congr 1
      unfold dgc
      rw [show b.toNat = i from by omega]
    · replace hb6 := cq_ge.2.mp hb6
      exfalso; first | omega | exact absurd trivial (by assumption)
  | succ m ih =>
    intro i hi
    have b1 := px_10b hv i
    have hK : (mv_m 69).1 = kc_LT_digitCharacter := rfl
    refine e_step (pc' := 5) hK rfl rfl rfl ?_
    refine e_step (pc' := 6) hK rfl rfl rfl ?_
    refine e_icmp (t := 24) (pc' := 9) hK rfl (by omega) (by omega) (by decide) rfl (fun hb6 => ?_) (fun hb6 => ?_)
    · replace hb6 := cq_ge.1.mp hb6
      exfalso; first | omega | exact absurd trivial (by assumption)
    · replace hb6 := cq_ge.2.mp hb6
      refine e_step (pc' := 10) hK rfl rfl rfl ?_
      refine e_if (t := 24) (pc' := 13) hK rfl (by omega) (by decide) rfl (fun hb10 => ?_) (fun hb10 => ?_)
      · replace hb10 := cq_le.1.mp hb10
        refine e_step (pc' := 26) hK rfl rfl rfl ?_
        refine e_step (pc' := 27) hK rfl rfl rfl ?_
        refine e_step (pc' := 29) hK rfl rfl rfl ?_
        refine e_irem (pc' := 30) hK rfl (by omega) (by omega) (by omega) rfl ?_
        refine e_step (pc' := 31) hK rfl rfl rfl ?_
        refine e_ret hK rfl rfl rfl ?_
        refine ⟨?_, rfl, rfl⟩
        congr 1
        unfold dgc
        rw [px_10z (i := i) (by omega) b.toNat (by omega), show px_10 v i = 0 from by omega]
      · replace hb10 := cq_le.2.mp hb10
        refine e_step (pc' := 14) hK rfl rfl rfl ?_
        refine e_step (pc' := 16) hK rfl rfl rfl ?_
        refine e_idiv (pc' := 17) hK rfl (by omega) (by omega) (by omega) rfl ?_
        refine e_step (pc' := 18) hK rfl rfl rfl ?_
        try simp only [List.set_cons_zero, List.set_cons_succ]
        refine e_step (pc' := 21) hK rfl rfl rfl ?_
        try simp only [List.set_cons_zero, List.set_cons_succ]
        refine e_goto (t := 4) hK rfl (by decide) ?_
        exact ih (i + 1) (by omega)
set_option maxRecDepth 10000 in
theorem c_digit (v b : Int) (hv : 0 ≤ v) (hv2 : mv_i v) (hb : mv_i b) : mv_Cl sc q_LT_digitCharacter [(0, v), (0, b)] c h (mv_Rd (0, dgc v b) c h) := by
  show mv_Ev sc 69 0 [(0, v), (0, b), (5, 0), (5, 0)] [] c h _
  have hK : (mv_m 69).1 = kc_LT_digitCharacter := rfl
  refine e_step (pc' := 1) hK rfl rfl rfl ?_
  refine e_step (pc' := 2) hK rfl rfl rfl ?_
  try simp only [List.set_cons_zero, List.set_cons_succ]
  refine e_step (pc' := 3) hK rfl rfl rfl ?_
  refine e_step (pc' := 4) hK rfl rfl rfl ?_
  try simp only [List.set_cons_zero, List.set_cons_succ]
  exact c_digit1 v b hv hv2 hb b.toNat 0 (by omega)
set_option maxRecDepth 10000 in
theorem c_digitsFor (v n : Int) (hv : 0 ≤ v) (hv2 : mv_i v) (hn : mv_i n) : mv_Cl sc q_Exp_digitsFor [(0, v), (0, n)] c h (mv_Rd (0, if 6 ≤ (if n < dgn v then dgn v else n) then 6 else (if n < dgn v then dgn v else n)) c h) := by
  show mv_Ev sc 97 0 [(0, v), (0, n)] [] c h _
  have hK : (mv_m 97).1 = kc_Exp_digitsFor := rfl
  refine e_step (pc' := 2) hK rfl rfl rfl ?_
  refine e_step (pc' := 3) hK rfl rfl rfl ?_
  refine e_step (pc' := 4) hK rfl rfl rfl ?_
  refine e_cRS1 (z := 68) (pc' := 7) hK rfl rfl rfl (Nat.le_of_ble_eq_true rfl) (Nat.le_of_ble_eq_true rfl) (c_digits v hv hv2) (by decide) rfl ?_
  refine e_cRS2 (z := 1) (pc' := 10) hK rfl rfl rfl (Nat.le_of_ble_eq_true rfl) (Nat.le_of_ble_eq_true rfl) (c_max _ _ hn (by have q := dgn_b v; omega)) (by decide) rfl ?_
  refine e_cRS2 (z := 2) (pc' := 13) hK rfl rfl rfl (Nat.le_of_ble_eq_true rfl) (Nat.le_of_ble_eq_true rfl) (c_min _ _ (by omega) (by have q := dgn_b v; (split <;> omega))) (by decide) rfl ?_
  refine e_ret hK rfl rfl rfl ?_
  exact ⟨rfl, rfl, rfl⟩
set_option maxRecDepth 10000 in
theorem c_exc1 {s : Int} {A : lg} (hs : StA h s A) (t k l R : Int) (hl : mv_i l) : ∀ (m : Nat) (q : Nat) (a : Int) (a7 a8 a9 : mv_V), q + m = (xn (gl A l)).toNat ∧ 0 ≤ a ∧ mv_i a ∧ exl A l m q a = R → mv_Ev sc 96 23 [(2, s), (0, t), (0, k), (0, l), (2, lrf h s A l), (0, a), (0, (q : Int)), a7, a8, a9] [] c h (mv_Rd (0, R) c h) := by
  intro m
  induction m with
  | zero =>
    intro q a a7 a8 a9 ⟨hi, ha0, ha1, he⟩
    have hs0 := hs
    obtain ⟨⟨s1, s2, t0, f0, f1, f2, f3, f4, ⟨t1, l1⟩, ⟨t2, l2⟩, ⟨t3, l3⟩, ⟨t4, l4⟩, hl0⟩, hB, fn, fT, gL', gP', gS', gO'⟩ := hs
    have b1 := hB.1
    have b2 := hB.2.1
    have qtg := fun (i : Int) => (hs0.lr i).tag
    have qfn := fun (i : Int) => (hs0.lr i).n
    have qln := fun (i : Int) => (hs0.lr i).len
    have xb1 := xn_b (gl_ok hB l)
    have hK : (mv_m 96).1 = kc_Exp_characterAt := rfl
    refine e_step (pc' := 25) hK rfl rfl rfl ?_
    refine e_step (pc' := 27) hK rfl rfl rfl ?_
    refine e_getI (ci := 1) (k := 6) (pc' := 30) hK rfl (by simp (disch := omega) only [t0, f0, f1, f2, f3, f4, t1, l1, t2, l2, t3, l3, t4, l4, fn, fT, gP', qtg, qfn]) rfl rfl (by decide) (by decide) rfl ?_
    try simp (disch := omega) only [t0, f0, f1, f2, f3, f4, t1, l1, t2, l2, t3, l3, t4, l4, fn, fT, gP', qtg, qfn]
    refine e_icmp (t := 158) (pc' := 33) hK rfl (by first | omega | (have q1 := xk_b (gl_ok hB l) (q : Int); omega) | (have q1 := vb_b hB l (q : Int); omega) | (have q2 := exv_b hB l (q : Int); have q3 := ezs_b hB l (q : Int); omega)) (by first | omega | (have q1 := xk_b (gl_ok hB l) (q : Int); omega) | (have q1 := vb_b hB l (q : Int); omega) | (have q2 := exv_b hB l (q : Int); have q3 := ezs_b hB l (q : Int); omega)) (by decide) rfl (fun hb30 => ?_) (fun hb30 => ?_)
    · replace hb30 := cq_ge.1.mp hb30
      refine e_step (pc' := 161) hK rfl rfl rfl ?_
      refine e_ret hK rfl rfl rfl ?_
      refine ⟨?_, rfl, rfl⟩
      rw [← he]
      rfl
    · replace hb30 := cq_ge.2.mp hb30
      exfalso; first | omega | exact absurd trivial (by assumption) | (first | omega | (have q1 := xk_b (gl_ok hB l) (q : Int); omega) | (have q1 := vb_b hB l (q : Int); omega) | (have q2 := exv_b hB l (q : Int); have q3 := ezs_b hB l (q : Int); omega))
  | succ m ih =>
    intro q a a7 a8 a9 ⟨hi, ha0, ha1, he⟩
    have hs0 := hs
    obtain ⟨⟨s1, s2, t0, f0, f1, f2, f3, f4, ⟨t1, l1⟩, ⟨t2, l2⟩, ⟨t3, l3⟩, ⟨t4, l4⟩, hl0⟩, hB, fn, fT, gL', gP', gS', gO'⟩ := hs
    have b1 := hB.1
    have b2 := hB.2.1
    have qtg := fun (i : Int) => (hs0.lr i).tag
    have qfn := fun (i : Int) => (hs0.lr i).n
    have qln := fun (i : Int) => (hs0.lr i).len
    have xb1 := xn_b (gl_ok hB l)
    have hK : (mv_m 96).1 = kc_Exp_characterAt := rfl
    refine e_step (pc' := 25) hK rfl rfl rfl ?_
    refine e_step (pc' := 27) hK rfl rfl rfl ?_
    refine e_getI (ci := 1) (k := 6) (pc' := 30) hK rfl (by simp (disch := omega) only [t0, f0, f1, f2, f3, f4, t1, l1, t2, l2, t3, l3, t4, l4, fn, fT, gP', qtg, qfn]) rfl rfl (by decide) (by decide) rfl ?_
    try simp (disch := omega) only [t0, f0, f1, f2, f3, f4, t1, l1, t2, l2, t3, l3, t4, l4, fn, fT, gP', qtg, qfn]
    refine e_icmp (t := 158) (pc' := 33) hK rfl (by first | omega | (have q1 := xk_b (gl_ok hB l) (q : Int); omega) | (have q1 := vb_b hB l (q : Int); omega) | (have q2 := exv_b hB l (q : Int); have q3 := ezs_b hB l (q : Int); omega)) (by first | omega | (have q1 := xk_b (gl_ok hB l) (q : Int); omega) | (have q1 := vb_b hB l (q : Int); omega) | (have q2 := exv_b hB l (q : Int); have q3 := ezs_b hB l (q : Int); omega)) (by decide) rfl (fun hb30 => ?_) (fun hb30 => ?_)
    · replace hb30 := cq_ge.1.mp hb30
      exfalso; first | omega | exact absurd trivial (by assumption) | (first | omega | (have q1 := xk_b (gl_ok hB l) (q : Int); omega) | (have q1 := vb_b hB l (q : Int); omega) | (have q2 := exv_b hB l (q : Int); have q3 := ezs_b hB l (q : Int); omega))
    · replace hb30 := cq_ge.2.mp hb30
      refine e_step (pc' := 35) hK rfl rfl rfl ?_
      refine e_step (pc' := 37) hK rfl rfl rfl ?_
      refine e_cRV2 (z := 8) (pc' := 40) hK rfl rfl (by first | (simp (disch := omega) only [t0, f0, f1, f2, f3, f4, t1, l1, t2, l2, t3, l3, t4, l4, fn, fT, gP', qtg, qfn]; rfl) | (show _ = 2; assumption) | (show _ = 1; assumption) | (show _ = 0; assumption) | (show _ = 3; assumption) | (show _ = 4; assumption)) rfl (Nat.le_of_ble_eq_true rfl) (Nat.le_of_ble_eq_true rfl) (x_kindAt (hs0.lr _) _ (by omega)) (by decide) rfl ?_
      try simp (disch := omega) only [t0, f0, f1, f2, f3, f4, t1, l1, t2, l2, t3, l3, t4, l4, fn, fT, gP', qtg, qfn]
      refine e_step (pc' := 41) hK rfl rfl rfl ?_
      refine e_icmp (t := 48) (pc' := 44) hK rfl (by first | omega | (have q1 := xk_b (gl_ok hB l) (q : Int); omega) | (have q1 := vb_b hB l (q : Int); omega) | (have q2 := exv_b hB l (q : Int); have q3 := ezs_b hB l (q : Int); omega)) (by first | omega | (have q1 := xk_b (gl_ok hB l) (q : Int); omega) | (have q1 := vb_b hB l (q : Int); omega) | (have q2 := exv_b hB l (q : Int); have q3 := ezs_b hB l (q : Int); omega)) (by decide) rfl (fun hb41 => ?_) (fun hb41 => ?_)
      · replace hb41 := cq_ne.1.mp hb41
        refine e_step (pc' := 49) hK rfl rfl rfl ?_
        refine e_step (pc' := 51) hK rfl rfl rfl ?_
        try simp only [List.set_cons_zero, List.set_cons_succ]
        refine e_step (pc' := 53) hK rfl rfl rfl ?_
        refine e_if (t := 70) (pc' := 56) hK rfl (by first | omega | (have q1 := xk_b (gl_ok hB l) (q : Int); omega) | (have q1 := vb_b hB l (q : Int); omega) | (have q2 := exv_b hB l (q : Int); have q3 := ezs_b hB l (q : Int); omega)) (by decide) rfl (fun hb53 => ?_) (fun hb53 => ?_)
        · replace hb53 := cq_eq.1.mp hb53
          refine e_step (pc' := 71) hK rfl rfl rfl ?_
          refine e_step (pc' := 73) hK rfl rfl rfl ?_
          try simp only [List.set_cons_zero, List.set_cons_succ]
          refine e_step (pc' := 75) hK rfl rfl rfl ?_
          refine e_if (t := 93) (pc' := 78) hK rfl (by first | omega | (have q1 := xk_b (gl_ok hB l) (q : Int); omega) | (have q1 := vb_b hB l (q : Int); omega) | (have q2 := exv_b hB l (q : Int); have q3 := ezs_b hB l (q : Int); omega)) (by decide) rfl (fun hb75 => ?_) (fun hb75 => ?_)
          · replace hb75 := cq_eq.1.mp hb75
            refine e_step (pc' := 95) hK rfl rfl rfl ?_
            refine e_step (pc' := 97) hK rfl rfl rfl ?_
            refine e_cRV2 (z := 10) (pc' := 100) hK rfl rfl (by first | (simp (disch := omega) only [t0, f0, f1, f2, f3, f4, t1, l1, t2, l2, t3, l3, t4, l4, fn, fT, gP', qtg, qfn]; rfl) | (show _ = 2; assumption) | (show _ = 1; assumption) | (show _ = 0; assumption) | (show _ = 3; assumption) | (show _ = 4; assumption)) rfl (Nat.le_of_ble_eq_true rfl) (Nat.le_of_ble_eq_true rfl) (x_sizeAt (hs0.lr _) _ (by omega)) (by decide) rfl ?_
            try simp (disch := omega) only [t0, f0, f1, f2, f3, f4, t1, l1, t2, l2, t3, l3, t4, l4, fn, fT, gP', qtg, qfn]
            have e3 : ezs A l (q : Int) = _ := if_neg hb41
            rw [← e3]
            refine e_step (pc' := 102) hK rfl rfl rfl ?_
            try simp only [List.set_cons_zero, List.set_cons_succ]
            refine e_step (pc' := 104) hK rfl rfl rfl ?_
            refine e_step (pc' := 106) hK rfl rfl rfl ?_
            refine e_icmp (t := 145) (pc' := 109) hK rfl (by first | omega | (have q1 := xk_b (gl_ok hB l) (q : Int); omega) | (have q1 := vb_b hB l (q : Int); omega) | (have q2 := exv_b hB l (q : Int); have q3 := ezs_b hB l (q : Int); omega)) (by first | omega | (have q1 := xk_b (gl_ok hB l) (q : Int); omega) | (have q1 := vb_b hB l (q : Int); omega) | (have q2 := exv_b hB l (q : Int); have q3 := ezs_b hB l (q : Int); omega)) (by decide) rfl (fun hb106 => ?_) (fun hb106 => ?_)
            · replace hb106 := cq_ge.1.mp hb106
              refine e_step (pc' := 147) hK rfl rfl rfl ?_
              refine e_step (pc' := 149) hK rfl rfl rfl ?_
              refine e_step (pc' := 150) hK rfl rfl rfl ?_
              refine e_step (pc' := 152) hK rfl rfl rfl ?_
              try simp only [List.set_cons_zero, List.set_cons_succ]
              refine e_step (pc' := 155) hK rfl rfl rfl ?_
              try simp only [List.set_cons_zero, List.set_cons_succ]
              refine e_goto (t := 23) hK rfl (by decide) ?_
              exact ih (q + 1) _ _ _ _ ⟨by omega, by omega, by have q3 := ezs_b hB l (q : Int); omega, by rw [← he]; exact (if_neg (by omega)).symm⟩
            · replace hb106 := cq_ge.2.mp hb106
              refine e_step (pc' := 111) hK rfl rfl rfl ?_
              refine e_if (t := 129) (pc' := 114) hK rfl (by first | omega | (have q1 := xk_b (gl_ok hB l) (q : Int); omega) | (have q1 := vb_b hB l (q : Int); omega) | (have q2 := exv_b hB l (q : Int); have q3 := ezs_b hB l (q : Int); omega)) (by decide) rfl (fun hb111 => ?_) (fun hb111 => ?_)
              · replace hb111 := cq_eq.1.mp hb111
                refine e_step (pc' := 131) hK rfl rfl rfl ?_
                refine e_step (pc' := 133) hK rfl rfl rfl ?_
                refine e_step (pc' := 135) hK rfl rfl rfl ?_
                refine e_cRV2 (z := 13) (pc' := 138) hK rfl rfl (by first | (simp (disch := omega) only [t0, f0, f1, f2, f3, f4, t1, l1, t2, l2, t3, l3, t4, l4, fn, fT, gP', qtg, qfn]; rfl) | (show _ = 2; assumption) | (show _ = 1; assumption) | (show _ = 0; assumption) | (show _ = 3; assumption) | (show _ = 4; assumption)) rfl (Nat.le_of_ble_eq_true rfl) (Nat.le_of_ble_eq_true rfl) (x_startAt (hs0.lr _) _ (by omega)) (by decide) rfl ?_
                try simp (disch := omega) only [t0, f0, f1, f2, f3, f4, t1, l1, t2, l2, t3, l3, t4, l4, fn, fT, gP', qtg, qfn]
                refine e_step (pc' := 140) hK rfl rfl rfl ?_
                refine e_step (pc' := 141) hK rfl rfl rfl ?_
                refine e_cRV2 (z := 12) (pc' := 144) hK rfl rfl (by first | (simp (disch := omega) only [t0, f0, f1, f2, f3, f4, t1, l1, t2, l2, t3, l3, t4, l4, fn, fT, gP', qtg, qfn]; rfl) | (show _ = 2; assumption) | (show _ = 1; assumption) | (show _ = 0; assumption) | (show _ = 3; assumption) | (show _ = 4; assumption)) rfl (Nat.le_of_ble_eq_true rfl) (Nat.le_of_ble_eq_true rfl) (x_characterAt (hs0.lr _) _ (by have q2 := xs_b (gl_ok hB l) (q : Int); have q3 := xn_b (gl_ok hB l); have q4 := ezs_b hB l (q : Int); omega)) (by decide) rfl ?_
                try simp (disch := omega) only [t0, f0, f1, f2, f3, f4, t1, l1, t2, l2, t3, l3, t4, l4, fn, fT, gP', qtg, qfn]
                refine e_ret hK rfl rfl rfl ?_
                refine ⟨?_, rfl, rfl⟩
                congr 1
                rw [← he]
                unfold exl
                rw [if_pos hb106, if_neg hb41]
              · replace hb111 := cq_eq.2.mp hb111
                exfalso; first | omega | exact absurd trivial (by assumption) | (first | omega | (have q1 := xk_b (gl_ok hB l) (q : Int); omega) | (have q1 := vb_b hB l (q : Int); omega) | (have q2 := exv_b hB l (q : Int); have q3 := ezs_b hB l (q : Int); omega))
          · replace hb75 := cq_eq.2.mp hb75
            exfalso; first | omega | exact absurd trivial (by assumption) | (first | omega | (have q1 := xk_b (gl_ok hB l) (q : Int); omega) | (have q1 := vb_b hB l (q : Int); omega) | (have q2 := exv_b hB l (q : Int); have q3 := ezs_b hB l (q : Int); omega))
        · replace hb53 := cq_eq.2.mp hb53
          exfalso; first | omega | exact absurd trivial (by assumption) | (first | omega | (have q1 := xk_b (gl_ok hB l) (q : Int); omega) | (have q1 := vb_b hB l (q : Int); omega) | (have q2 := exv_b hB l (q : Int); have q3 := ezs_b hB l (q : Int); omega))
      · replace hb41 := cq_ne.2.mp hb41
        refine e_step (pc' := 45) hK rfl rfl rfl ?_
        refine e_goto (t := 49) hK rfl (by decide) ?_
        refine e_step (pc' := 51) hK rfl rfl rfl ?_
        try simp only [List.set_cons_zero, List.set_cons_succ]
        refine e_step (pc' := 53) hK rfl rfl rfl ?_
        refine e_if (t := 70) (pc' := 56) hK rfl (by first | omega | (have q1 := xk_b (gl_ok hB l) (q : Int); omega) | (have q1 := vb_b hB l (q : Int); omega) | (have q2 := exv_b hB l (q : Int); have q3 := ezs_b hB l (q : Int); omega)) (by decide) rfl (fun hb53 => ?_) (fun hb53 => ?_)
        · replace hb53 := cq_eq.1.mp hb53
          exfalso; first | omega | exact absurd trivial (by assumption) | (first | omega | (have q1 := xk_b (gl_ok hB l) (q : Int); omega) | (have q1 := vb_b hB l (q : Int); omega) | (have q2 := exv_b hB l (q : Int); have q3 := ezs_b hB l (q : Int); omega))
        · replace hb53 := cq_eq.2.mp hb53
          refine e_step (pc' := 57) hK rfl rfl rfl ?_
          refine e_step (pc' := 58) hK rfl rfl rfl ?_
          refine e_step (pc' := 59) hK rfl rfl rfl ?_
          refine e_step (pc' := 61) hK rfl rfl rfl ?_
          refine e_cRS3 (z := 95) (pc' := 64) hK rfl rfl rfl (Nat.le_of_ble_eq_true rfl) (Nat.le_of_ble_eq_true rfl) (c_valueBehind hs0 l (q : Int) hl (by omega)) (by decide) rfl ?_
          try simp (disch := omega) only [t0, f0, f1, f2, f3, f4, t1, l1, t2, l2, t3, l3, t4, l4, fn, fT, gP', qtg, qfn]
          refine e_cRS2 (z := 1) (pc' := 67) hK rfl rfl rfl (Nat.le_of_ble_eq_true rfl) (Nat.le_of_ble_eq_true rfl) (c_max 0 (vb A l (q : Int)) (by omega) (by have q1 := vb_b hB l (q : Int); omega)) (by decide) rfl ?_
          try simp (disch := omega) only [t0, f0, f1, f2, f3, f4, t1, l1, t2, l2, t3, l3, t4, l4, fn, fT, gP', qtg, qfn]
          refine e_goto (t := 71) hK rfl (by decide) ?_
          refine e_step (pc' := 73) hK rfl rfl rfl ?_
          try simp only [List.set_cons_zero, List.set_cons_succ]
          refine e_step (pc' := 75) hK rfl rfl rfl ?_
          refine e_if (t := 93) (pc' := 78) hK rfl (by first | omega | (have q1 := xk_b (gl_ok hB l) (q : Int); omega) | (have q1 := vb_b hB l (q : Int); omega) | (have q2 := exv_b hB l (q : Int); have q3 := ezs_b hB l (q : Int); omega)) (by decide) rfl (fun hb75 => ?_) (fun hb75 => ?_)
          · replace hb75 := cq_eq.1.mp hb75
            exfalso; first | omega | exact absurd trivial (by assumption) | (first | omega | (have q1 := xk_b (gl_ok hB l) (q : Int); omega) | (have q1 := vb_b hB l (q : Int); omega) | (have q2 := exv_b hB l (q : Int); have q3 := ezs_b hB l (q : Int); omega))
          · replace hb75 := cq_eq.2.mp hb75
            refine e_step (pc' := 80) hK rfl rfl rfl ?_
            refine e_step (pc' := 82) hK rfl rfl rfl ?_
            refine e_step (pc' := 84) hK rfl rfl rfl ?_
            refine e_cRV2 (z := 10) (pc' := 87) hK rfl rfl (by first | (simp (disch := omega) only [t0, f0, f1, f2, f3, f4, t1, l1, t2, l2, t3, l3, t4, l4, fn, fT, gP', qtg, qfn]; rfl) | (show _ = 2; assumption) | (show _ = 1; assumption) | (show _ = 0; assumption) | (show _ = 3; assumption) | (show _ = 4; assumption)) rfl (Nat.le_of_ble_eq_true rfl) (Nat.le_of_ble_eq_true rfl) (x_sizeAt (hs0.lr _) _ (by omega)) (by decide) rfl ?_
            try simp (disch := omega) only [t0, f0, f1, f2, f3, f4, t1, l1, t2, l2, t3, l3, t4, l4, fn, fT, gP', qtg, qfn]
            refine e_cRS2 (z := 97) (pc' := 90) hK rfl rfl rfl (Nat.le_of_ble_eq_true rfl) (Nat.le_of_ble_eq_true rfl) (c_digitsFor (exv A l (q : Int)) (xz (gl A l) (q : Int)) (exv_b hB l (q : Int)).1 (by have q2 := exv_b hB l (q : Int); omega) (by have q2 := xz_b (gl_ok hB l) (q : Int); omega)) (by decide) rfl ?_
            try simp (disch := omega) only [t0, f0, f1, f2, f3, f4, t1, l1, t2, l2, t3, l3, t4, l4, fn, fT, gP', qtg, qfn]
            refine e_goto (t := 100) hK rfl (by decide) ?_
            have e3 : ezs A l (q : Int) = _ := if_pos hb41
            rw [← e3]
            refine e_step (pc' := 102) hK rfl rfl rfl ?_
            try simp only [List.set_cons_zero, List.set_cons_succ]
            refine e_step (pc' := 104) hK rfl rfl rfl ?_
            refine e_step (pc' := 106) hK rfl rfl rfl ?_
            refine e_icmp (t := 145) (pc' := 109) hK rfl (by first | omega | (have q1 := xk_b (gl_ok hB l) (q : Int); omega) | (have q1 := vb_b hB l (q : Int); omega) | (have q2 := exv_b hB l (q : Int); have q3 := ezs_b hB l (q : Int); omega)) (by first | omega | (have q1 := xk_b (gl_ok hB l) (q : Int); omega) | (have q1 := vb_b hB l (q : Int); omega) | (have q2 := exv_b hB l (q : Int); have q3 := ezs_b hB l (q : Int); omega)) (by decide) rfl (fun hb106 => ?_) (fun hb106 => ?_)
            · replace hb106 := cq_ge.1.mp hb106
              refine e_step (pc' := 147) hK rfl rfl rfl ?_
              refine e_step (pc' := 149) hK rfl rfl rfl ?_
              refine e_step (pc' := 150) hK rfl rfl rfl ?_
              refine e_step (pc' := 152) hK rfl rfl rfl ?_
              try simp only [List.set_cons_zero, List.set_cons_succ]
              refine e_step (pc' := 155) hK rfl rfl rfl ?_
              try simp only [List.set_cons_zero, List.set_cons_succ]
              refine e_goto (t := 23) hK rfl (by decide) ?_
              exact ih (q + 1) _ _ _ _ ⟨by omega, by omega, by have q3 := ezs_b hB l (q : Int); omega, by rw [← he]; exact (if_neg (by omega)).symm⟩
            · replace hb106 := cq_ge.2.mp hb106
              refine e_step (pc' := 111) hK rfl rfl rfl ?_
              refine e_if (t := 129) (pc' := 114) hK rfl (by first | omega | (have q1 := xk_b (gl_ok hB l) (q : Int); omega) | (have q1 := vb_b hB l (q : Int); omega) | (have q2 := exv_b hB l (q : Int); have q3 := ezs_b hB l (q : Int); omega)) (by decide) rfl (fun hb111 => ?_) (fun hb111 => ?_)
              · replace hb111 := cq_eq.1.mp hb111
                exfalso; first | omega | exact absurd trivial (by assumption) | (first | omega | (have q1 := xk_b (gl_ok hB l) (q : Int); omega) | (have q1 := vb_b hB l (q : Int); omega) | (have q2 := exv_b hB l (q : Int); have q3 := ezs_b hB l (q : Int); omega))
              · replace hb111 := cq_eq.2.mp hb111
                refine e_step (pc' := 116) hK rfl rfl rfl ?_
                refine e_step (pc' := 118) hK rfl rfl rfl ?_
                refine e_step (pc' := 119) hK rfl rfl rfl ?_
                refine e_step (pc' := 120) hK rfl rfl rfl ?_
                refine e_step (pc' := 122) hK rfl rfl rfl ?_
                refine e_step (pc' := 123) hK rfl rfl rfl ?_
                refine e_cRS2 (z := 69) (pc' := 126) hK rfl rfl rfl (Nat.le_of_ble_eq_true rfl) (Nat.le_of_ble_eq_true rfl) (c_digit (exv A l (q : Int)) _ (exv_b hB l (q : Int)).1 (by have q2 := exv_b hB l (q : Int); omega) (by have q3 := ezs_b hB l (q : Int); omega)) (by decide) rfl ?_
                try simp (disch := omega) only [t0, f0, f1, f2, f3, f4, t1, l1, t2, l2, t3, l3, t4, l4, fn, fT, gP', qtg, qfn]
                refine e_goto (t := 144) hK rfl (by decide) ?_
                refine e_ret hK rfl rfl rfl ?_
                refine ⟨?_, rfl, rfl⟩
                congr 1
                rw [← he]
                unfold exl
                rw [if_pos hb106, if_pos hb41]
set_option maxRecDepth 10000 in
theorem c_exc {s : Int} {A : lg} (hs : StA h s A) (t k : Int) (ht : mv_i t) (hk : mv_i k) (hk0 : 0 ≤ k) : mv_Cl sc q_Exp_characterAt [(2, s), (0, t), (0, k)] c h (mv_Rd (0, exc A t k) c h) := by
  have hs0 := hs
  obtain ⟨⟨s1, s2, t0, f0, f1, f2, f3, f4, ⟨t1, l1⟩, ⟨t2, l2⟩, ⟨t3, l3⟩, ⟨t4, l4⟩, hl0⟩, hB, fn, fT, gL', gP', gS', gO'⟩ := hs
  have b1 := hB.1
  have b2 := hB.2.1
  show mv_Ev sc 96 0 [(2, s), (0, t), (0, k), (5, 0), (5, 0), (5, 0), (5, 0), (5, 0), (5, 0), (5, 0)] [] c h _
  have hK : (mv_m 96).1 = kc_Exp_characterAt := rfl
  refine e_step (pc' := 1) hK rfl rfl rfl ?_
  refine e_step (pc' := 2) hK rfl rfl rfl ?_
  refine e_step (pc' := 3) hK rfl rfl rfl ?_
  refine e_getI (ci := 2) (k := 5) (pc' := 6) hK rfl (by simp (disch := omega) only [t0, f0, f1, f2, f3, f4, t1, l1, t2, l2, t3, l3, t4, l4, fn, fT, gP']) rfl rfl (by decide) (by decide) rfl ?_
  try simp (disch := omega) only [t0, f0, f1, f2, f3, f4, t1, l1, t2, l2, t3, l3, t4, l4, fn, fT, gP']
  refine e_cRV3 (z := 25) (pc' := 9) hK rfl rfl (by first | (simp (disch := omega) only [t0, f0, f1, f2, f3, f4, t1, l1, t2, l2, t3, l3, t4, l4, fn, fT, gP']; rfl) | (show _ = 2; assumption) | (show _ = 1; assumption) | (show _ = 0; assumption) | (show _ = 3; assumption) | (show _ = 4; assumption)) rfl (Nat.le_of_ble_eq_true rfl) (Nat.le_of_ble_eq_true rfl) (c_lastOf hs0 t (gn A) ht (by omega)) (by decide) rfl ?_
  try simp (disch := omega) only [t0, f0, f1, f2, f3, f4, t1, l1, t2, l2, t3, l3, t4, l4, fn, fT, gP']
  refine e_step (pc' := 10) hK rfl rfl rfl ?_
  try simp only [List.set_cons_zero, List.set_cons_succ]
  refine e_step (pc' := 11) hK rfl rfl rfl ?_
  refine e_step (pc' := 12) hK rfl rfl rfl ?_
  refine e_cRV2 (z := 26) (pc' := 15) hK rfl rfl (by first | (simp (disch := omega) only [t0, f0, f1, f2, f3, f4, t1, l1, t2, l2, t3, l3, t4, l4, fn, fT, gP']; rfl) | (show _ = 2; assumption) | (show _ = 1; assumption) | (show _ = 0; assumption) | (show _ = 3; assumption) | (show _ = 4; assumption)) rfl (Nat.le_of_ble_eq_true rfl) (Nat.le_of_ble_eq_true rfl) (c_lineAt hs0 (gla A t) (by have q := glo_b A t (gn A); unfold gla; omega)) (by decide) rfl ?_
  try simp (disch := omega) only [t0, f0, f1, f2, f3, f4, t1, l1, t2, l2, t3, l3, t4, l4, fn, fT, gP']
  refine e_step (pc' := 17) hK rfl rfl rfl ?_
  try simp only [List.set_cons_zero, List.set_cons_succ]
  refine e_step (pc' := 18) hK rfl rfl rfl ?_
  refine e_step (pc' := 20) hK rfl rfl rfl ?_
  try simp only [List.set_cons_zero, List.set_cons_succ]
  refine e_step (pc' := 21) hK rfl rfl rfl ?_
  refine e_step (pc' := 23) hK rfl rfl rfl ?_
  try simp only [List.set_cons_zero, List.set_cons_succ]
  exact c_exc1 hs0 t k (gla A t) _ (by have q := glo_b A t (gn A); unfold gla; omega) (xn (gl A (gla A t))).toNat 0 k _ _ _ ⟨by omega, hk0, hk, rfl⟩
end CX
