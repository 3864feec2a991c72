/-! taking anew; learning (written by wip/whole/m28.py) -/
section SL
variable {sc : Int × (Int → Int)} {c : mv_C} {h : mv_H}
set_option maxRecDepth 10000 in
theorem c_takeL1 {s o : Int} {B : lg} (ho : StA h o B) (hd : s + 5 ≤ o ∨ o + 5 ≤ s) : ∀ (m : Nat) (i : Nat) (hh : mv_H) (a3 a4 : mv_V), i + m = gn B ∧ (gtk B i).1 = true ∧ StA hh s (gtk B i).2 ∧ mv_frm h hh s → mv_Ev sc 33 12 [(2, s), (2, o), (0, (i : Int)), a3, a4] [] c hh (fun r c' h' => r = (0, mv_bo (gtk B (gn B)).1) ∧ c' = c ∧ StA h' s (gtk B (gn B)).2 ∧ mv_frm h h' s) := by
  intro m
  induction m with
  | zero =>
    intro i hh a3 a4 ⟨hi, hg, hs, hfr⟩
    have hs0 := hs
    obtain ⟨⟨s1, s2, t0, f0, f1, f2, f3, f4, ⟨t1, l1⟩, ⟨t2, l2⟩, ⟨t3, l3⟩, ⟨t4, l4⟩, hl0⟩, hB, fn, fT, gL', gP', gS', gO'⟩ := hs
    have ho1 := ho.fr hfr s1 s2 hd
    obtain ⟨⟨o1, o2, u0, g0, g1, g2, g3, g4, ⟨u1, k1⟩, ⟨u2, k2⟩, ⟨u3, k3⟩, ⟨u4, k4⟩, hl1⟩, hC, y1, y2, y3, y4, y5, y6⟩ := id ho1
    have hl := ho1.lr (i : Int)
    have tgl := hl.tag
    have b1 := hC.1
    have b2 := hB.2.1
    have b3 := gtf_b hB (gl B i)
    have hK : (mv_m 33).1 = kc_State_takeLinesOf := rfl
    refine e_step (pc' := 13) hK rfl rfl rfl ?_
    refine e_step (pc' := 14) hK rfl rfl rfl ?_
    refine e_getI (ci := 2) (k := 5) (pc' := 17) hK rfl (by simp (disch := omega) only [t0, u0, y1, tgl]) rfl rfl (by decide) (by decide) rfl ?_
    try simp (disch := omega) only [t0, u0, y1, tgl]
    refine e_icmp (t := 56) (pc' := 20) hK rfl (by first | omega) (by first | omega) (by decide) rfl (fun hb17 => ?_) (fun hb17 => ?_)
    · replace hb17 := cq_ge.1.mp hb17
      refine e_step (pc' := 57) hK rfl rfl rfl ?_
      refine e_ret hK rfl rfl (by first | rfl | (simp only [mv_ret]; rw [if_pos]; exact Or.inr ⟨rfl, by omega⟩)) ?_
      have e : i = gn B := by omega
      subst e
      exact ⟨by rw [hg]; rfl, rfl, hs0, hfr⟩
    · replace hb17 := cq_ge.2.mp hb17
      exfalso; first | omega | exact absurd trivial (by assumption) | (first | omega)
  | succ m ih =>
    intro i hh a3 a4 ⟨hi, hg, hs, hfr⟩
    have hs0 := hs
    obtain ⟨⟨s1, s2, t0, f0, f1, f2, f3, f4, ⟨t1, l1⟩, ⟨t2, l2⟩, ⟨t3, l3⟩, ⟨t4, l4⟩, hl0⟩, hB, fn, fT, gL', gP', gS', gO'⟩ := hs
    have ho1 := ho.fr hfr s1 s2 hd
    obtain ⟨⟨o1, o2, u0, g0, g1, g2, g3, g4, ⟨u1, k1⟩, ⟨u2, k2⟩, ⟨u3, k3⟩, ⟨u4, k4⟩, hl1⟩, hC, y1, y2, y3, y4, y5, y6⟩ := id ho1
    have hl := ho1.lr (i : Int)
    have tgl := hl.tag
    have b1 := hC.1
    have b2 := hB.2.1
    have b3 := gtf_b hB (gl B i)
    have hK : (mv_m 33).1 = kc_State_takeLinesOf := rfl
    refine e_step (pc' := 13) hK rfl rfl rfl ?_
    refine e_step (pc' := 14) hK rfl rfl rfl ?_
    refine e_getI (ci := 2) (k := 5) (pc' := 17) hK rfl (by simp (disch := omega) only [t0, u0, y1, tgl]) rfl rfl (by decide) (by decide) rfl ?_
    try simp (disch := omega) only [t0, u0, y1, tgl]
    refine e_icmp (t := 56) (pc' := 20) hK rfl (by first | omega) (by first | omega) (by decide) rfl (fun hb17 => ?_) (fun hb17 => ?_)
    · replace hb17 := cq_ge.1.mp hb17
      exfalso; first | omega | exact absurd trivial (by assumption) | (first | omega)
    · replace hb17 := cq_ge.2.mp hb17
      refine e_step (pc' := 21) hK rfl rfl rfl ?_
      refine e_step (pc' := 22) hK rfl rfl rfl ?_
      refine e_cRV2 (z := 26) (pc' := 25) hK rfl rfl (by first | (simp (disch := omega) only [t0, u0, y1, tgl]; rfl) | (show _ = 2; assumption) | (show _ = 1; assumption) | (show _ = 0; assumption) | (show _ = 3; assumption) | (show _ = 4; assumption)) rfl (Nat.le_of_ble_eq_true rfl) (Nat.le_of_ble_eq_true rfl) (c_lineAt ho1 (i : Int) (by omega)) (by decide) rfl ?_
      try simp (disch := omega) only [t0, u0, y1, tgl]
      refine e_step (pc' := 26) hK rfl rfl rfl ?_
      try simp only [List.set_cons_zero, List.set_cons_succ]
      refine e_step (pc' := 27) hK rfl rfl rfl ?_
      refine e_step (pc' := 28) hK rfl rfl rfl ?_
      refine e_cRV2 (z := 29) (pc' := 31) hK rfl rfl (by first | (simp (disch := omega) only [t0, u0, y1, tgl]; rfl) | (show _ = 2; assumption) | (show _ = 1; assumption) | (show _ = 0; assumption) | (show _ = 3; assumption) | (show _ = 4; assumption)) rfl (Nat.le_of_ble_eq_true rfl) (Nat.le_of_ble_eq_true rfl) (c_templateFor hs0 hl) (by decide) rfl ?_
      try simp (disch := omega) only [t0, u0, y1, tgl]
      refine e_step (pc' := 33) hK rfl rfl rfl ?_
      try simp only [List.set_cons_zero, List.set_cons_succ]
      refine e_step (pc' := 35) hK rfl rfl rfl ?_
      refine e_step (pc' := 38) hK rfl rfl rfl ?_
      refine e_icmp (t := 43) (pc' := 41) hK rfl (by first | omega) (by first | omega) (by decide) rfl (fun hb38 => ?_) (fun hb38 => ?_)
      · replace hb38 := cq_ne.1.mp hb38
        refine e_step (pc' := 44) hK rfl rfl rfl ?_
        refine e_step (pc' := 45) hK rfl rfl rfl ?_
        refine e_step (pc' := 47) hK rfl rfl rfl ?_
        refine e_cQV3 (z := 30) hK rfl rfl (by first | (simp (disch := omega) only [t0, u0, y1, tgl]; rfl) | (show _ = 2; assumption) | (show _ = 1; assumption) | (show _ = 0; assumption) | (show _ = 3; assumption) | (show _ = 4; assumption)) rfl (Nat.le_of_ble_eq_true rfl) (Nat.le_of_ble_eq_true rfl) (c_put hs0 hl _ (by omega)) ?_
        rintro _ _ hh2 ⟨rfl, rfl, hs2, hf2⟩
        refine ⟨by decide, ?_⟩
        rw [if_pos rfl]
        show mv_Ev _ _ 50 _ _ _ _ _
        refine e_step (pc' := 53) hK rfl rfl rfl ?_
        try simp only [List.set_cons_zero, List.set_cons_succ]
        refine e_goto (t := 12) hK rfl (by decide) ?_
        have e : gtk B (i + 1) = (true, gput (gtk B i).2 (gl B i) (gtf (gtk B i).2 (gl B i))) := by
          show cond (gtk B i).1 _ _ = _
          rw [hg, decide_eq_false hb38]; rfl
        exact ih (i + 1) hh2 _ _ ⟨by omega, by rw [e], by rw [e]; exact hs2, fun b hb => (hf2 b hb).trans (hfr b hb)⟩
      · replace hb38 := cq_ne.2.mp hb38
        refine e_step (pc' := 42) hK rfl rfl rfl ?_
        refine e_ret hK rfl rfl (by first | rfl | (simp only [mv_ret]; rw [if_pos]; exact Or.inr ⟨rfl, by omega⟩)) ?_
        have e : gtk B (i + 1) = (false, (gtk B i).2) := by
          show cond (gtk B i).1 _ _ = _
          rw [hg, decide_eq_true hb38]; rfl
        have e2 := gtk_stop (B := B) (k := i + 1) (by rw [e]) (gn B) (by omega)
        exact ⟨by rw [e2, e]; rfl, rfl, by rw [e2, e]; exact hs0, hfr⟩
set_option maxRecDepth 10000 in
theorem c_takeL0 {s o : Int} {v : sv} {B : lg} (hw : StW h s) (ho : StA h o B) (hd : s + 5 ≤ o ∨ o + 5 ≤ s) : mv_Cl sc q_State_takeLinesOf [(2, s), (2, o)] c (sH h s v) (fun r c' h' => r = (0, mv_bo (gtk B (gn B)).1) ∧ c' = c ∧ StA h' s (gtk B (gn B)).2 ∧ mv_frm h h' s) := by
  have hw0 := hw
  obtain ⟨s1, s2, t0, f0, f1, f2, f3, f4, ⟨t1, l1⟩, ⟨t2, l2⟩, ⟨t3, l3⟩, ⟨t4, l4⟩, hl0⟩ := hw
  show mv_Ev sc 33 0 [(2, s), (2, o), (5, 0), (5, 0), (5, 0)] [] c (sH h s v) _
  have hK : (mv_m 33).1 = kc_State_takeLinesOf := rfl
  refine e_step (pc' := 1) hK rfl rfl rfl ?_
  refine e_step (pc' := 2) hK rfl rfl rfl ?_
  refine e_put (ci := 2) (k := 5) (pc' := 5) hK rfl (by simp (disch := omega) only [sH_tg, sH_l1, sH_l2, sH_l3, sH_l4, sH_n5, sH_n6, sH_f0, sH_f1, sH_f2, sH_f3, sH_f4, sH_c1, sH_c2, sH_c3, sH_c4, t0]) rfl rfl (by decide) rfl rfl ?_
  simp only [sW_5, sW_6, sW_1, sW_2, sW_3, sW_4]
  refine e_step (pc' := 6) hK rfl rfl rfl ?_
  refine e_step (pc' := 7) hK rfl rfl rfl ?_
  refine e_put (ci := 2) (k := 6) (pc' := 10) hK rfl (by simp (disch := omega) only [sH_tg, sH_l1, sH_l2, sH_l3, sH_l4, sH_n5, sH_n6, sH_f0, sH_f1, sH_f2, sH_f3, sH_f4, sH_c1, sH_c2, sH_c3, sH_c4, t0]) rfl rfl (by decide) rfl rfl ?_
  simp only [sW_5, sW_6, sW_1, sW_2, sW_3, sW_4]
  refine e_step (pc' := 11) hK rfl rfl rfl ?_
  refine e_step (pc' := 12) hK rfl rfl rfl ?_
  try simp only [List.set_cons_zero, List.set_cons_succ]
  refine c_takeL1 ho hd (gn B) 0 _ _ _ ⟨by omega, rfl, StA.mk hw0 ?_, sH_fr⟩
  exact ⟨⟨Nat.zero_le _, Nat.zero_le _, fun i h0 h1 => by have h1 : i < 0 := h1; omega, fun i h0 h1 => by have h1 : i < 0 := h1; omega⟩, rfl, rfl, fun i h0 h1 => by have h1 : i < 0 := h1; omega, fun i h0 h1 => by have h1 : i < 0 := h1; omega, fun i h0 h1 => by have h1 : i < 0 := h1; omega, fun i h0 h1 => by have h1 : i < 0 := h1; omega⟩
theorem c_takeLines {s o : Int} {A B : lg} (hs : StA h s A) (ho : StA h o B) (hd : s + 5 ≤ o ∨ o + 5 ≤ s) : mv_Cl sc q_State_takeLinesOf [(2, s), (2, o)] c h (fun r c' h' => r = (0, mv_bo (gtk B (gn B)).1) ∧ c' = c ∧ StA h' s (gtk B (gn B)).2 ∧ mv_frm h h' s) := by
  have h1 := c_takeL0 (sc := sc) (c := c) (v := hv h s) hs.1 ho hd
  rw [← sH_id] at h1
  exact h1
set_option maxRecDepth 10000 in
theorem c_isSlot (k : Int) (hk : mv_i k) : mv_Cl sc q_LT_isSlot [(0, k)] c h (mv_Rd (0, mv_bo (decide (k = 3) || decide (k = 4))) c h) := by
  show mv_Ev sc 45 0 [(0, k)] [] c h _
  have hK : (mv_m 45).1 = kc_LT_isSlot := rfl
  refine e_step (pc' := 1) hK rfl rfl rfl ?_
  refine e_step (pc' := 2) hK rfl rfl rfl ?_
  refine e_icmp (t := 10) (pc' := 5) hK rfl (by omega) (by omega) (by decide) rfl (fun hb2 => ?_) (fun hb2 => ?_)
  · replace hb2 := cq_eq.1.mp hb2
    refine e_step (pc' := 11) hK rfl rfl rfl ?_
    refine e_goto (t := 15) hK rfl (by decide) ?_
    refine e_ret hK rfl rfl (by first | rfl | (simp only [mv_ret]; rw [if_pos]; exact Or.inr ⟨rfl, by omega⟩)) ?_
    refine ⟨?_, rfl, rfl⟩
    congr 1
    unfold mv_bo
    first | (rw [if_pos (by simp only [Bool.or_eq_true, decide_eq_true_eq]; omega)]; done) | (rw [if_neg (by simp only [Bool.or_eq_true, decide_eq_true_eq]; omega)])
  · replace hb2 := cq_eq.2.mp hb2
    refine e_step (pc' := 6) hK rfl rfl rfl ?_
    refine e_step (pc' := 7) hK rfl rfl rfl ?_
    refine e_icmp (t := 14) (pc' := 10) hK rfl (by omega) (by omega) (by decide) rfl (fun hb7 => ?_) (fun hb7 => ?_)
    · replace hb7 := cq_ne.1.mp hb7
      refine e_step (pc' := 15) hK rfl rfl rfl ?_
      refine e_ret hK rfl rfl (by first | rfl | (simp only [mv_ret]; rw [if_pos]; exact Or.inr ⟨rfl, by omega⟩)) ?_
      refine ⟨?_, rfl, rfl⟩
      congr 1
      unfold mv_bo
      first | (rw [if_pos (by simp only [Bool.or_eq_true, decide_eq_true_eq]; omega)]; done) | (rw [if_neg (by simp only [Bool.or_eq_true, decide_eq_true_eq]; omega)])
    · replace hb7 := cq_ne.2.mp hb7
      refine e_step (pc' := 11) hK rfl rfl rfl ?_
      refine e_goto (t := 15) hK rfl (by decide) ?_
      refine e_ret hK rfl rfl (by first | rfl | (simp only [mv_ret]; rw [if_pos]; exact Or.inr ⟨rfl, by omega⟩)) ?_
      refine ⟨?_, rfl, rfl⟩
      congr 1
      unfold mv_bo
      first | (rw [if_pos (by simp only [Bool.or_eq_true, decide_eq_true_eq]; omega)]; done) | (rw [if_neg (by simp only [Bool.or_eq_true, decide_eq_true_eq]; omega)])
set_option maxRecDepth 10000 in
theorem c_onlyD1 {s : Int} {A : lg} (hs : StA h s A) (t u : Int) (ht : mv_i t) (hu : mv_i u) (hn : xn (gs A t) = xn (gs A u)) : ∀ (m : Nat) (i : Nat) (d : Int) (a7 : mv_V), i + m = (xn (gs A t)).toNat ∧ gdl A t u i = d ∧ d ≠ -9999 → mv_Ev sc 99 35 [(2, s), (0, t), (0, u), (2, srf h s A t), (2, srf h s A u), (0, d), (0, (i : Int)), a7] [] c h (mv_Rd (0, god A t u) c h) := by
  intro m
  induction m with
  | zero =>
    intro i d a7 ⟨hi, hg, hd⟩
    have hs0 := hs
    obtain ⟨⟨s1, s2, t0, f0, f1, f2, f3, f4, ⟨t1, l1⟩, ⟨t2, l2⟩, ⟨t3, l3⟩, ⟨t4, l4⟩, hl0⟩, hB, fn, fT, gL', gP', gS', gO'⟩ := hs
    have b1 := hB.1
    have b2 := hB.2.1
    have hr := hs0.sr t
    have hq := hs0.sr u
    obtain ⟨n1, n2, n3, n4⟩ := xn_b hr.ok
    obtain ⟨m1, m2, m3, m4⟩ := xn_b hq.ok
    have r1 := hr.n
    have r2 := hq.n
    have r3 := hr.tag
    have r4 := hq.tag
    have hK : (mv_m 99).1 = kc_Learn_onlyDifference := rfl
    refine e_step (pc' := 37) hK rfl rfl rfl ?_
    refine e_step (pc' := 38) hK rfl rfl rfl ?_
    refine e_getI (ci := 1) (k := 6) (pc' := 41) hK rfl (by simp (disch := omega) only [t0, f0, f1, f2, f3, f4, t1, l1, t2, l2, t3, l3, t4, l4, fn, fT, gP', r1, r2, r3, r4]) rfl rfl (by decide) (by decide) rfl ?_
    try simp (disch := omega) only [t0, f0, f1, f2, f3, f4, t1, l1, t2, l2, t3, l3, t4, l4, fn, fT, gP', r1, r2, r3, r4]
    refine e_icmp (t := 128) (pc' := 44) hK rfl (by first | omega | exact bo_i _ | (have q1 := gk_b hB t (i : Int); have q2 := gk_b hB u (i : Int); have q3 := xk_b hr.ok (i : Int); have q4 := xk_b hq.ok (i : Int); have q5 := gdl_b (A := A) (t := t) (u := u) i; omega)) (by first | omega | exact bo_i _ | (have q1 := gk_b hB t (i : Int); have q2 := gk_b hB u (i : Int); have q3 := xk_b hr.ok (i : Int); have q4 := xk_b hq.ok (i : Int); have q5 := gdl_b (A := A) (t := t) (u := u) i; omega)) (by decide) rfl (fun hb41 => ?_) (fun hb41 => ?_)
    · replace hb41 := cq_ge.1.mp hb41
      try simp only [bo_0, Bool.not_eq_false] at hb41
      refine e_step (pc' := 130) hK rfl rfl rfl ?_
      refine e_ret hK rfl rfl rfl ?_
      refine ⟨?_, rfl, rfl⟩
      congr 1
      unfold god
      rw [if_pos hn, show (xn (gs A t)).toNat = i from by omega, hg]
    · replace hb41 := cq_ge.2.mp hb41
      try simp only [bo_0, Bool.not_eq_false] at hb41
      exfalso; first | omega | exact absurd trivial (by assumption) | (first | omega | exact bo_i _ | (have q1 := gk_b hB t (i : Int); have q2 := gk_b hB u (i : Int); have q3 := xk_b hr.ok (i : Int); have q4 := xk_b hq.ok (i : Int); have q5 := gdl_b (A := A) (t := t) (u := u) i; omega))
  | succ m ih =>
    intro i d a7 ⟨hi, hg, hd⟩
    have hs0 := hs
    obtain ⟨⟨s1, s2, t0, f0, f1, f2, f3, f4, ⟨t1, l1⟩, ⟨t2, l2⟩, ⟨t3, l3⟩, ⟨t4, l4⟩, hl0⟩, hB, fn, fT, gL', gP', gS', gO'⟩ := hs
    have b1 := hB.1
    have b2 := hB.2.1
    have hr := hs0.sr t
    have hq := hs0.sr u
    obtain ⟨n1, n2, n3, n4⟩ := xn_b hr.ok
    obtain ⟨m1, m2, m3, m4⟩ := xn_b hq.ok
    have r1 := hr.n
    have r2 := hq.n
    have r3 := hr.tag
    have r4 := hq.tag
    have hK : (mv_m 99).1 = kc_Learn_onlyDifference := rfl
    refine e_step (pc' := 37) hK rfl rfl rfl ?_
    refine e_step (pc' := 38) hK rfl rfl rfl ?_
    refine e_getI (ci := 1) (k := 6) (pc' := 41) hK rfl (by simp (disch := omega) only [t0, f0, f1, f2, f3, f4, t1, l1, t2, l2, t3, l3, t4, l4, fn, fT, gP', r1, r2, r3, r4]) rfl rfl (by decide) (by decide) rfl ?_
    try simp (disch := omega) only [t0, f0, f1, f2, f3, f4, t1, l1, t2, l2, t3, l3, t4, l4, fn, fT, gP', r1, r2, r3, r4]
    refine e_icmp (t := 128) (pc' := 44) hK rfl (by first | omega | exact bo_i _ | (have q1 := gk_b hB t (i : Int); have q2 := gk_b hB u (i : Int); have q3 := xk_b hr.ok (i : Int); have q4 := xk_b hq.ok (i : Int); have q5 := gdl_b (A := A) (t := t) (u := u) i; omega)) (by first | omega | exact bo_i _ | (have q1 := gk_b hB t (i : Int); have q2 := gk_b hB u (i : Int); have q3 := xk_b hr.ok (i : Int); have q4 := xk_b hq.ok (i : Int); have q5 := gdl_b (A := A) (t := t) (u := u) i; omega)) (by decide) rfl (fun hb41 => ?_) (fun hb41 => ?_)
    · replace hb41 := cq_ge.1.mp hb41
      try simp only [bo_0, Bool.not_eq_false] at hb41
      exfalso; first | omega | exact absurd trivial (by assumption) | (first | omega | exact bo_i _ | (have q1 := gk_b hB t (i : Int); have q2 := gk_b hB u (i : Int); have q3 := xk_b hr.ok (i : Int); have q4 := xk_b hq.ok (i : Int); have q5 := gdl_b (A := A) (t := t) (u := u) i; omega))
    · replace hb41 := cq_ge.2.mp hb41
      try simp only [bo_0, Bool.not_eq_false] at hb41
      refine e_step (pc' := 45) hK rfl rfl rfl ?_
      refine e_step (pc' := 46) hK rfl rfl rfl ?_
      refine e_step (pc' := 48) hK rfl rfl rfl ?_
      refine e_cRV3 (z := 18) (pc' := 51) hK rfl rfl (by first | (simp (disch := omega) only [t0, f0, f1, f2, f3, f4, t1, l1, t2, l2, t3, l3, t4, l4, fn, fT, gP', r1, r2, r3, r4]; rfl) | (show _ = 2; assumption) | (show _ = 1; assumption) | (show _ = 0; assumption) | (show _ = 3; assumption) | (show _ = 4; assumption)) rfl (Nat.le_of_ble_eq_true rfl) (Nat.le_of_ble_eq_true rfl) (c_kindIn hs0 t _ ht (by omega)) (by decide) rfl ?_
      try simp (disch := omega) only [t0, f0, f1, f2, f3, f4, t1, l1, t2, l2, t3, l3, t4, l4, fn, fT, gP', r1, r2, r3, r4]
      refine e_step (pc' := 53) hK rfl rfl rfl ?_
      try simp only [List.set_cons_zero, List.set_cons_succ]
      refine e_step (pc' := 55) hK rfl rfl rfl ?_
      refine e_step (pc' := 56) hK rfl rfl rfl ?_
      refine e_step (pc' := 57) hK rfl rfl rfl ?_
      refine e_step (pc' := 59) hK rfl rfl rfl ?_
      refine e_cRV3 (z := 18) (pc' := 62) hK rfl rfl (by first | (simp (disch := omega) only [t0, f0, f1, f2, f3, f4, t1, l1, t2, l2, t3, l3, t4, l4, fn, fT, gP', r1, r2, r3, r4]; rfl) | (show _ = 2; assumption) | (show _ = 1; assumption) | (show _ = 0; assumption) | (show _ = 3; assumption) | (show _ = 4; assumption)) rfl (Nat.le_of_ble_eq_true rfl) (Nat.le_of_ble_eq_true rfl) (c_kindIn hs0 u _ hu (by omega)) (by decide) rfl ?_
      try simp (disch := omega) only [t0, f0, f1, f2, f3, f4, t1, l1, t2, l2, t3, l3, t4, l4, fn, fT, gP', r1, r2, r3, r4]
      refine e_icmp (t := 89) (pc' := 65) hK rfl (by first | omega | exact bo_i _ | (have q1 := gk_b hB t (i : Int); have q2 := gk_b hB u (i : Int); have q3 := xk_b hr.ok (i : Int); have q4 := xk_b hq.ok (i : Int); have q5 := gdl_b (A := A) (t := t) (u := u) i; omega)) (by first | omega | exact bo_i _ | (have q1 := gk_b hB t (i : Int); have q2 := gk_b hB u (i : Int); have q3 := xk_b hr.ok (i : Int); have q4 := xk_b hq.ok (i : Int); have q5 := gdl_b (A := A) (t := t) (u := u) i; omega)) (by decide) rfl (fun hb62 => ?_) (fun hb62 => ?_)
      · replace hb62 := cq_ne.1.mp hb62
        try simp only [bo_0, Bool.not_eq_false] at hb62
        refine e_step (pc' := 91) hK rfl rfl rfl ?_
        refine e_step (pc' := 92) hK rfl rfl rfl ?_
        refine e_icmp (t := 114) (pc' := 95) hK rfl (by first | omega | exact bo_i _ | (have q1 := gk_b hB t (i : Int); have q2 := gk_b hB u (i : Int); have q3 := xk_b hr.ok (i : Int); have q4 := xk_b hq.ok (i : Int); have q5 := gdl_b (A := A) (t := t) (u := u) i; omega)) (by first | omega | exact bo_i _ | (have q1 := gk_b hB t (i : Int); have q2 := gk_b hB u (i : Int); have q3 := xk_b hr.ok (i : Int); have q4 := xk_b hq.ok (i : Int); have q5 := gdl_b (A := A) (t := t) (u := u) i; omega)) (by decide) rfl (fun hb92 => ?_) (fun hb92 => ?_)
        · replace hb92 := cq_ne.1.mp hb92
          try simp only [bo_0, Bool.not_eq_false] at hb92
          refine e_step (pc' := 117) hK rfl rfl rfl ?_
          refine e_ret hK rfl rfl rfl ?_
          have hal : gal A t u i = false := by { unfold gal; rw [decide_eq_false hb62]; rfl }
          have e : gdl A t u (i + 1) = -9999 := by { unfold gdl; rw [hg, if_neg hd, if_neg (by rw [hal]; decide), if_pos (Or.inl hb92)] }
          refine ⟨?_, rfl, rfl⟩
          congr 1
          unfold god
          rw [if_pos hn, gdl_stop e _ (by omega)]
        · replace hb92 := cq_ne.2.mp hb92
          try simp only [bo_0, Bool.not_eq_false] at hb92
          refine e_step (pc' := 96) hK rfl rfl rfl ?_
          refine e_step (pc' := 98) hK rfl rfl rfl ?_
          refine e_cRV2 (z := 8) (pc' := 101) hK rfl rfl (by first | (simp (disch := omega) only [t0, f0, f1, f2, f3, f4, t1, l1, t2, l2, t3, l3, t4, l4, fn, fT, gP', r1, r2, r3, r4]; rfl) | (show _ = 2; assumption) | (show _ = 1; assumption) | (show _ = 0; assumption) | (show _ = 3; assumption) | (show _ = 4; assumption)) rfl (Nat.le_of_ble_eq_true rfl) (Nat.le_of_ble_eq_true rfl) (x_kindAt hr _ (by omega)) (by decide) rfl ?_
          try simp (disch := omega) only [t0, f0, f1, f2, f3, f4, t1, l1, t2, l2, t3, l3, t4, l4, fn, fT, gP', r1, r2, r3, r4]
          refine e_if (t := 114) (pc' := 104) hK rfl (by first | omega | exact bo_i _ | (have q1 := gk_b hB t (i : Int); have q2 := gk_b hB u (i : Int); have q3 := xk_b hr.ok (i : Int); have q4 := xk_b hq.ok (i : Int); have q5 := gdl_b (A := A) (t := t) (u := u) i; omega)) (by decide) rfl (fun hb101 => ?_) (fun hb101 => ?_)
          · replace hb101 := cq_ne.1.mp hb101
            try simp only [bo_0, Bool.not_eq_false] at hb101
            refine e_step (pc' := 117) hK rfl rfl rfl ?_
            refine e_ret hK rfl rfl rfl ?_
            have hal : gal A t u i = false := by { unfold gal; rw [decide_eq_false hb62]; rfl }
            have e : gdl A t u (i + 1) = -9999 := by { unfold gdl; rw [hg, if_neg hd, if_neg (by rw [hal]; decide), if_pos (Or.inr (Or.inl hb101))] }
            refine ⟨?_, rfl, rfl⟩
            congr 1
            unfold god
            rw [if_pos hn, gdl_stop e _ (by omega)]
          · replace hb101 := cq_ne.2.mp hb101
            try simp only [bo_0, Bool.not_eq_false] at hb101
            refine e_step (pc' := 106) hK rfl rfl rfl ?_
            refine e_step (pc' := 108) hK rfl rfl rfl ?_
            refine e_cRV2 (z := 8) (pc' := 111) hK rfl rfl (by first | (simp (disch := omega) only [t0, f0, f1, f2, f3, f4, t1, l1, t2, l2, t3, l3, t4, l4, fn, fT, gP', r1, r2, r3, r4]; rfl) | (show _ = 2; assumption) | (show _ = 1; assumption) | (show _ = 0; assumption) | (show _ = 3; assumption) | (show _ = 4; assumption)) rfl (Nat.le_of_ble_eq_true rfl) (Nat.le_of_ble_eq_true rfl) (x_kindAt hq _ (by omega)) (by decide) rfl ?_
            try simp (disch := omega) only [t0, f0, f1, f2, f3, f4, t1, l1, t2, l2, t3, l3, t4, l4, fn, fT, gP', r1, r2, r3, r4]
            refine e_if (t := 118) (pc' := 114) hK rfl (by first | omega | exact bo_i _ | (have q1 := gk_b hB t (i : Int); have q2 := gk_b hB u (i : Int); have q3 := xk_b hr.ok (i : Int); have q4 := xk_b hq.ok (i : Int); have q5 := gdl_b (A := A) (t := t) (u := u) i; omega)) (by decide) rfl (fun hb111 => ?_) (fun hb111 => ?_)
            · replace hb111 := cq_eq.1.mp hb111
              try simp only [bo_0, Bool.not_eq_false] at hb111
              refine e_step (pc' := 120) hK rfl rfl rfl ?_
              refine e_step (pc' := 122) hK rfl rfl rfl ?_
              try simp only [List.set_cons_zero, List.set_cons_succ]
              refine e_step (pc' := 125) hK rfl rfl rfl ?_
              try simp only [List.set_cons_zero, List.set_cons_succ]
              refine e_goto (t := 35) hK rfl (by decide) ?_
              have hal : gal A t u i = false := by { unfold gal; rw [decide_eq_false hb62]; rfl }
              have e : gdl A t u (i + 1) = (i : Int) := by { unfold gdl; rw [hg]; exact (by rw [if_neg (by first | decide | omega), if_neg (by rw [hal]; decide), if_neg (by omega)]) }
              exact ih (i + 1) _ _ ⟨by omega, e, by omega⟩
            · replace hb111 := cq_eq.2.mp hb111
              try simp only [bo_0, Bool.not_eq_false] at hb111
              refine e_step (pc' := 117) hK rfl rfl rfl ?_
              refine e_ret hK rfl rfl rfl ?_
              have hal : gal A t u i = false := by { unfold gal; rw [decide_eq_false hb62]; rfl }
              have e : gdl A t u (i + 1) = -9999 := by { unfold gdl; rw [hg, if_neg hd, if_neg (by rw [hal]; decide), if_pos (Or.inr (Or.inr hb111))] }
              refine ⟨?_, rfl, rfl⟩
              congr 1
              unfold god
              rw [if_pos hn, gdl_stop e _ (by omega)]
      · replace hb62 := cq_ne.2.mp hb62
        try simp only [bo_0, Bool.not_eq_false] at hb62
        refine e_step (pc' := 67) hK rfl rfl rfl ?_
        refine e_cRS1 (z := 45) (pc' := 70) hK rfl rfl rfl (Nat.le_of_ble_eq_true rfl) (Nat.le_of_ble_eq_true rfl) (c_isSlot _ (by have q1 := gk_b hB t (i : Int); omega)) (by decide) rfl ?_
        try simp (disch := omega) only [t0, f0, f1, f2, f3, f4, t1, l1, t2, l2, t3, l3, t4, l4, fn, fT, gP', r1, r2, r3, r4]
        refine e_if (t := 122) (pc' := 73) hK rfl (by first | omega | exact bo_i _ | (have q1 := gk_b hB t (i : Int); have q2 := gk_b hB u (i : Int); have q3 := xk_b hr.ok (i : Int); have q4 := xk_b hq.ok (i : Int); have q5 := gdl_b (A := A) (t := t) (u := u) i; omega)) (by decide) rfl (fun hb70 => ?_) (fun hb70 => ?_)
        · replace hb70 := cq_ne.1.mp hb70
          try simp only [bo_0, Bool.not_eq_false] at hb70
          refine e_step (pc' := 125) hK rfl rfl rfl ?_
          try simp only [List.set_cons_zero, List.set_cons_succ]
          refine e_goto (t := 35) hK rfl (by decide) ?_
          have hal : gal A t u i = true := by { unfold gal; rw [decide_eq_true hb62, hb70]; rfl }
          have e : gdl A t u (i + 1) = d := by { unfold gdl; rw [hg]; exact (by rw [if_neg hd, if_pos hal]) }
          exact ih (i + 1) _ _ ⟨by omega, e, by omega⟩
        · replace hb70 := cq_ne.2.mp hb70
          try simp only [bo_0, Bool.not_eq_false] at hb70
          refine e_step (pc' := 74) hK rfl rfl rfl ?_
          refine e_step (pc' := 76) hK rfl rfl rfl ?_
          refine e_step (pc' := 78) hK rfl rfl rfl ?_
          refine e_step (pc' := 80) hK rfl rfl rfl ?_
          refine e_cRV4 (z := 9) (pc' := 83) hK rfl rfl (by first | (simp (disch := omega) only [t0, f0, f1, f2, f3, f4, t1, l1, t2, l2, t3, l3, t4, l4, fn, fT, gP', r1, r2, r3, r4]; rfl) | (show _ = 2; assumption) | (show _ = 1; assumption) | (show _ = 0; assumption) | (show _ = 3; assumption) | (show _ = 4; assumption)) rfl (Nat.le_of_ble_eq_true rfl) (Nat.le_of_ble_eq_true rfl) (x_written hr hq _ _ (by omega) (by omega)) (by decide) rfl ?_
          try simp (disch := omega) only [t0, f0, f1, f2, f3, f4, t1, l1, t2, l2, t3, l3, t4, l4, fn, fT, gP', r1, r2, r3, r4]
          refine e_if (t := 89) (pc' := 86) hK rfl (by first | omega | exact bo_i _ | (have q1 := gk_b hB t (i : Int); have q2 := gk_b hB u (i : Int); have q3 := xk_b hr.ok (i : Int); have q4 := xk_b hq.ok (i : Int); have q5 := gdl_b (A := A) (t := t) (u := u) i; omega)) (by decide) rfl (fun hb83 => ?_) (fun hb83 => ?_)
          · replace hb83 := cq_eq.1.mp hb83
            try simp only [bo_0, Bool.not_eq_false] at hb83
            refine e_step (pc' := 91) hK rfl rfl rfl ?_
            refine e_step (pc' := 92) hK rfl rfl rfl ?_
            refine e_icmp (t := 114) (pc' := 95) hK rfl (by first | omega | exact bo_i _ | (have q1 := gk_b hB t (i : Int); have q2 := gk_b hB u (i : Int); have q3 := xk_b hr.ok (i : Int); have q4 := xk_b hq.ok (i : Int); have q5 := gdl_b (A := A) (t := t) (u := u) i; omega)) (by first | omega | exact bo_i _ | (have q1 := gk_b hB t (i : Int); have q2 := gk_b hB u (i : Int); have q3 := xk_b hr.ok (i : Int); have q4 := xk_b hq.ok (i : Int); have q5 := gdl_b (A := A) (t := t) (u := u) i; omega)) (by decide) rfl (fun hb92 => ?_) (fun hb92 => ?_)
            · replace hb92 := cq_ne.1.mp hb92
              try simp only [bo_0, Bool.not_eq_false] at hb92
              refine e_step (pc' := 117) hK rfl rfl rfl ?_
              refine e_ret hK rfl rfl rfl ?_
              have hal : gal A t u i = false := by { unfold gal; rw [decide_eq_true hb62, hb70, hb83]; rfl }
              have e : gdl A t u (i + 1) = -9999 := by { unfold gdl; rw [hg, if_neg hd, if_neg (by rw [hal]; decide), if_pos (Or.inl hb92)] }
              refine ⟨?_, rfl, rfl⟩
              congr 1
              unfold god
              rw [if_pos hn, gdl_stop e _ (by omega)]
            · replace hb92 := cq_ne.2.mp hb92
              try simp only [bo_0, Bool.not_eq_false] at hb92
              refine e_step (pc' := 96) hK rfl rfl rfl ?_
              refine e_step (pc' := 98) hK rfl rfl rfl ?_
              refine e_cRV2 (z := 8) (pc' := 101) hK rfl rfl (by first | (simp (disch := omega) only [t0, f0, f1, f2, f3, f4, t1, l1, t2, l2, t3, l3, t4, l4, fn, fT, gP', r1, r2, r3, r4]; rfl) | (show _ = 2; assumption) | (show _ = 1; assumption) | (show _ = 0; assumption) | (show _ = 3; assumption) | (show _ = 4; assumption)) rfl (Nat.le_of_ble_eq_true rfl) (Nat.le_of_ble_eq_true rfl) (x_kindAt hr _ (by omega)) (by decide) rfl ?_
              try simp (disch := omega) only [t0, f0, f1, f2, f3, f4, t1, l1, t2, l2, t3, l3, t4, l4, fn, fT, gP', r1, r2, r3, r4]
              refine e_if (t := 114) (pc' := 104) hK rfl (by first | omega | exact bo_i _ | (have q1 := gk_b hB t (i : Int); have q2 := gk_b hB u (i : Int); have q3 := xk_b hr.ok (i : Int); have q4 := xk_b hq.ok (i : Int); have q5 := gdl_b (A := A) (t := t) (u := u) i; omega)) (by decide) rfl (fun hb101 => ?_) (fun hb101 => ?_)
              · replace hb101 := cq_ne.1.mp hb101
                try simp only [bo_0, Bool.not_eq_false] at hb101
                refine e_step (pc' := 117) hK rfl rfl rfl ?_
                refine e_ret hK rfl rfl rfl ?_
                have hal : gal A t u i = false := by { unfold gal; rw [decide_eq_true hb62, hb70, hb83]; rfl }
                have e : gdl A t u (i + 1) = -9999 := by { unfold gdl; rw [hg, if_neg hd, if_neg (by rw [hal]; decide), if_pos (Or.inr (Or.inl hb101))] }
                refine ⟨?_, rfl, rfl⟩
                congr 1
                unfold god
                rw [if_pos hn, gdl_stop e _ (by omega)]
              · replace hb101 := cq_ne.2.mp hb101
                try simp only [bo_0, Bool.not_eq_false] at hb101
                refine e_step (pc' := 106) hK rfl rfl rfl ?_
                refine e_step (pc' := 108) hK rfl rfl rfl ?_
                refine e_cRV2 (z := 8) (pc' := 111) hK rfl rfl (by first | (simp (disch := omega) only [t0, f0, f1, f2, f3, f4, t1, l1, t2, l2, t3, l3, t4, l4, fn, fT, gP', r1, r2, r3, r4]; rfl) | (show _ = 2; assumption) | (show _ = 1; assumption) | (show _ = 0; assumption) | (show _ = 3; assumption) | (show _ = 4; assumption)) rfl (Nat.le_of_ble_eq_true rfl) (Nat.le_of_ble_eq_true rfl) (x_kindAt hq _ (by omega)) (by decide) rfl ?_
                try simp (disch := omega) only [t0, f0, f1, f2, f3, f4, t1, l1, t2, l2, t3, l3, t4, l4, fn, fT, gP', r1, r2, r3, r4]
                refine e_if (t := 118) (pc' := 114) hK rfl (by first | omega | exact bo_i _ | (have q1 := gk_b hB t (i : Int); have q2 := gk_b hB u (i : Int); have q3 := xk_b hr.ok (i : Int); have q4 := xk_b hq.ok (i : Int); have q5 := gdl_b (A := A) (t := t) (u := u) i; omega)) (by decide) rfl (fun hb111 => ?_) (fun hb111 => ?_)
                · replace hb111 := cq_eq.1.mp hb111
                  try simp only [bo_0, Bool.not_eq_false] at hb111
                  refine e_step (pc' := 120) hK rfl rfl rfl ?_
                  refine e_step (pc' := 122) hK rfl rfl rfl ?_
                  try simp only [List.set_cons_zero, List.set_cons_succ]
                  refine e_step (pc' := 125) hK rfl rfl rfl ?_
                  try simp only [List.set_cons_zero, List.set_cons_succ]
                  refine e_goto (t := 35) hK rfl (by decide) ?_
                  have hal : gal A t u i = false := by { unfold gal; rw [decide_eq_true hb62, hb70, hb83]; rfl }
                  have e : gdl A t u (i + 1) = (i : Int) := by { unfold gdl; rw [hg]; exact (by rw [if_neg (by first | decide | omega), if_neg (by rw [hal]; decide), if_neg (by omega)]) }
                  exact ih (i + 1) _ _ ⟨by omega, e, by omega⟩
                · replace hb111 := cq_eq.2.mp hb111
                  try simp only [bo_0, Bool.not_eq_false] at hb111
                  refine e_step (pc' := 117) hK rfl rfl rfl ?_
                  refine e_ret hK rfl rfl rfl ?_
                  have hal : gal A t u i = false := by { unfold gal; rw [decide_eq_true hb62, hb70, hb83]; rfl }
                  have e : gdl A t u (i + 1) = -9999 := by { unfold gdl; rw [hg, if_neg hd, if_neg (by rw [hal]; decide), if_pos (Or.inr (Or.inr hb111))] }
                  refine ⟨?_, rfl, rfl⟩
                  congr 1
                  unfold god
                  rw [if_pos hn, gdl_stop e _ (by omega)]
          · replace hb83 := cq_eq.2.mp hb83
            try simp only [bo_0, Bool.not_eq_false] at hb83
            refine e_goto (t := 122) hK rfl (by decide) ?_
            refine e_step (pc' := 125) hK rfl rfl rfl ?_
            try simp only [List.set_cons_zero, List.set_cons_succ]
            refine e_goto (t := 35) hK rfl (by decide) ?_
            have hal : gal A t u i = true := by { unfold gal; rw [decide_eq_true hb62, hb83, Bool.or_true]; rfl }
            have e : gdl A t u (i + 1) = d := by { unfold gdl; rw [hg]; exact (by rw [if_neg hd, if_pos hal]) }
            exact ih (i + 1) _ _ ⟨by omega, e, by omega⟩
set_option maxRecDepth 10000 in
theorem c_onlyD {s : Int} {A : lg} (hs : StA h s A) (t u : Int) (ht : mv_i t) (hu : mv_i u) : mv_Cl sc q_Learn_onlyDifference [(2, s), (0, t), (0, u)] c h (mv_Rd (0, god A t u) c h) := by
  have hs0 := hs
  obtain ⟨⟨s1, s2, t0, f0, f1, f2, f3, f4, ⟨t1, l1⟩, ⟨t2, l2⟩, ⟨t3, l3⟩, ⟨t4, l4⟩, hl0⟩, hB, fn, fT, gL', gP', gS', gO'⟩ := hs
  have b1 := hB.1
  have b2 := hB.2.1
  have hr := hs0.sr t
  have hq := hs0.sr u
  obtain ⟨n1, n2, n3, n4⟩ := xn_b hr.ok
  obtain ⟨m1, m2, m3, m4⟩ := xn_b hq.ok
  have r1 := hr.n
  have r2 := hq.n
  have r3 := hr.tag
  have r4 := hq.tag
  show mv_Ev sc 99 0 [(2, s), (0, t), (0, u), (5, 0), (5, 0), (5, 0), (5, 0), (5, 0)] [] c h _
  have hK : (mv_m 99).1 = kc_Learn_onlyDifference := rfl
  refine e_step (pc' := 1) hK rfl rfl rfl ?_
  refine e_step (pc' := 2) hK rfl rfl rfl ?_
  refine e_cRV2 (z := 17) (pc' := 5) hK rfl rfl (by first | (simp (disch := omega) only [t0, f0, f1, f2, f3, f4, t1, l1, t2, l2, t3, l3, t4, l4, fn, fT, gP', r1, r2, r3, r4]; rfl) | (show _ = 2; assumption) | (show _ = 1; assumption) | (show _ = 0; assumption) | (show _ = 3; assumption) | (show _ = 4; assumption)) rfl (Nat.le_of_ble_eq_true rfl) (Nat.le_of_ble_eq_true rfl) (c_sampleAt hs0 t ht) (by decide) rfl ?_
  try simp (disch := omega) only [t0, f0, f1, f2, f3, f4, t1, l1, t2, l2, t3, l3, t4, l4, fn, fT, gP', r1, r2, r3, r4]
  refine e_step (pc' := 6) hK rfl rfl rfl ?_
  try simp only [List.set_cons_zero, List.set_cons_succ]
  refine e_step (pc' := 7) hK rfl rfl rfl ?_
  refine e_step (pc' := 8) hK rfl rfl rfl ?_
  refine e_cRV2 (z := 17) (pc' := 11) hK rfl rfl (by first | (simp (disch := omega) only [t0, f0, f1, f2, f3, f4, t1, l1, t2, l2, t3, l3, t4, l4, fn, fT, gP', r1, r2, r3, r4]; rfl) | (show _ = 2; assumption) | (show _ = 1; assumption) | (show _ = 0; assumption) | (show _ = 3; assumption) | (show _ = 4; assumption)) rfl (Nat.le_of_ble_eq_true rfl) (Nat.le_of_ble_eq_true rfl) (c_sampleAt hs0 u hu) (by decide) rfl ?_
  try simp (disch := omega) only [t0, f0, f1, f2, f3, f4, t1, l1, t2, l2, t3, l3, t4, l4, fn, fT, gP', r1, r2, r3, r4]
  refine e_step (pc' := 13) hK rfl rfl rfl ?_
  try simp only [List.set_cons_zero, List.set_cons_succ]
  refine e_step (pc' := 14) hK rfl rfl rfl ?_
  refine e_getI (ci := 1) (k := 6) (pc' := 17) hK rfl (by simp (disch := omega) only [t0, f0, f1, f2, f3, f4, t1, l1, t2, l2, t3, l3, t4, l4, fn, fT, gP', r1, r2, r3, r4]) rfl rfl (by decide) (by decide) rfl ?_
  try simp (disch := omega) only [t0, f0, f1, f2, f3, f4, t1, l1, t2, l2, t3, l3, t4, l4, fn, fT, gP', r1, r2, r3, r4]
  refine e_step (pc' := 19) hK rfl rfl rfl ?_
  refine e_getI (ci := 1) (k := 6) (pc' := 22) hK rfl (by simp (disch := omega) only [t0, f0, f1, f2, f3, f4, t1, l1, t2, l2, t3, l3, t4, l4, fn, fT, gP', r1, r2, r3, r4]) rfl rfl (by decide) (by decide) rfl ?_
  try simp (disch := omega) only [t0, f0, f1, f2, f3, f4, t1, l1, t2, l2, t3, l3, t4, l4, fn, fT, gP', r1, r2, r3, r4]
  refine e_icmp (t := 29) (pc' := 25) hK rfl (by omega) (by omega) (by decide) rfl (fun hb22 => ?_) (fun hb22 => ?_)
  · replace hb22 := cq_eq.1.mp hb22
    refine e_step (pc' := 30) hK rfl rfl rfl ?_
    refine e_step (pc' := 32) hK rfl rfl rfl ?_
    try simp only [List.set_cons_zero, List.set_cons_succ]
    refine e_step (pc' := 33) hK rfl rfl rfl ?_
    refine e_step (pc' := 35) hK rfl rfl rfl ?_
    try simp only [List.set_cons_zero, List.set_cons_succ]
    exact c_onlyD1 hs0 t u ht hu hb22 (xn (gs A t)).toNat 0 _ _ ⟨by omega, rfl, by decide⟩
  · replace hb22 := cq_eq.2.mp hb22
    refine e_step (pc' := 28) hK rfl rfl rfl ?_
    refine e_ret hK rfl rfl rfl ?_
    refine ⟨?_, rfl, rfl⟩
    congr 1
    unfold god
    rw [if_neg hb22]
set_option maxRecDepth 10000 in
theorem c_learnI {s : Int} {A : lg} (hs : StA h s A) (t : Nat) (ht : t < gT A) (hf : lf (fun t => decide (glq A t ≠ -9999)) t = -9999) (K : glq A (t : Int) = -9999 → ∀ (a2 a3 : mv_V), mv_Ev sc 98 61 [(2, s), (0, (t : Int)), a2, a3] [] c h (fun r c' h' => r = (0, glv A) ∧ c' = c ∧ StA h' s (gle A) ∧ mv_frm h h' s)) : ∀ (m : Nat) (u : Nat) (a3 : mv_V), u + m = gT A ∧ t < u ∧ lf (fun u => decide ((t : Int) < u) && decide (god A (t : Int) u ≠ -9999)) u = -9999 → mv_Ev sc 98 14 [(2, s), (0, (t : Int)), (0, (u : Int)), a3] [] c h (fun r c' h' => r = (0, glv A) ∧ c' = c ∧ StA h' s (gle A) ∧ mv_frm h h' s) := by
  intro m
  induction m with
  | zero =>
    intro u a3 ⟨hi, htu, hg⟩
    have hs0 := hs
    obtain ⟨⟨s1, s2, t0, f0, f1, f2, f3, f4, ⟨t1, l1⟩, ⟨t2, l2⟩, ⟨t3, l3⟩, ⟨t4, l4⟩, hl0⟩, hB, fn, fT, gL', gP', gS', gO'⟩ := hs
    have b1 := hB.1
    have b2 := hB.2.1
    have hK : (mv_m 98).1 = kc_Learn_learnFirstPair := rfl
    refine e_step (pc' := 15) hK rfl rfl rfl ?_
    refine e_step (pc' := 16) hK rfl rfl rfl ?_
    refine e_getI (ci := 2) (k := 6) (pc' := 19) hK rfl (by simp (disch := omega) only [t0, f0, f1, f2, f3, f4, t1, l1, t2, l2, t3, l3, t4, l4, fn, fT, gP']) rfl rfl (by decide) (by decide) rfl ?_
    try simp (disch := omega) only [t0, f0, f1, f2, f3, f4, t1, l1, t2, l2, t3, l3, t4, l4, fn, fT, gP']
    refine e_icmp (t := 61) (pc' := 22) hK rfl (by first | omega | (have q := god_b hB (t : Int) (u : Int); omega)) (by first | omega | (have q := god_b hB (t : Int) (u : Int); omega)) (by decide) rfl (fun hb19 => ?_) (fun hb19 => ?_)
    · replace hb19 := cq_ge.1.mp hb19
      exact K (show lf _ _ = _ from by rw [show gT A = u from by omega]; exact hg) _ _
    · replace hb19 := cq_ge.2.mp hb19
      exfalso; first | omega | exact absurd trivial (by assumption) | (first | omega | (have q := god_b hB (t : Int) (u : Int); omega))
  | succ m ih =>
    intro u a3 ⟨hi, htu, hg⟩
    have hs0 := hs
    obtain ⟨⟨s1, s2, t0, f0, f1, f2, f3, f4, ⟨t1, l1⟩, ⟨t2, l2⟩, ⟨t3, l3⟩, ⟨t4, l4⟩, hl0⟩, hB, fn, fT, gL', gP', gS', gO'⟩ := hs
    have b1 := hB.1
    have b2 := hB.2.1
    have hK : (mv_m 98).1 = kc_Learn_learnFirstPair := rfl
    refine e_step (pc' := 15) hK rfl rfl rfl ?_
    refine e_step (pc' := 16) hK rfl rfl rfl ?_
    refine e_getI (ci := 2) (k := 6) (pc' := 19) hK rfl (by simp (disch := omega) only [t0, f0, f1, f2, f3, f4, t1, l1, t2, l2, t3, l3, t4, l4, fn, fT, gP']) rfl rfl (by decide) (by decide) rfl ?_
    try simp (disch := omega) only [t0, f0, f1, f2, f3, f4, t1, l1, t2, l2, t3, l3, t4, l4, fn, fT, gP']
    refine e_icmp (t := 61) (pc' := 22) hK rfl (by first | omega | (have q := god_b hB (t : Int) (u : Int); omega)) (by first | omega | (have q := god_b hB (t : Int) (u : Int); omega)) (by decide) rfl (fun hb19 => ?_) (fun hb19 => ?_)
    · replace hb19 := cq_ge.1.mp hb19
      exfalso; first | omega | exact absurd trivial (by assumption) | (first | omega | (have q := god_b hB (t : Int) (u : Int); omega))
    · replace hb19 := cq_ge.2.mp hb19
      refine e_step (pc' := 23) hK rfl rfl rfl ?_
      refine e_step (pc' := 24) hK rfl rfl rfl ?_
      refine e_step (pc' := 25) hK rfl rfl rfl ?_
      refine e_cRS3 (z := 99) (pc' := 28) hK rfl rfl rfl (Nat.le_of_ble_eq_true rfl) (Nat.le_of_ble_eq_true rfl) (c_onlyD hs0 (t : Int) (u : Int) (by omega) (by omega)) (by decide) rfl ?_
      try simp (disch := omega) only [t0, f0, f1, f2, f3, f4, t1, l1, t2, l2, t3, l3, t4, l4, fn, fT, gP']
      refine e_step (pc' := 29) hK rfl rfl rfl ?_
      try simp only [List.set_cons_zero, List.set_cons_succ]
      refine e_step (pc' := 30) hK rfl rfl rfl ?_
      refine e_step (pc' := 33) hK rfl rfl rfl ?_
      refine e_icmp (t := 55) (pc' := 36) hK rfl (by first | omega | (have q := god_b hB (t : Int) (u : Int); omega)) (by first | omega | (have q := god_b hB (t : Int) (u : Int); omega)) (by decide) rfl (fun hb33 => ?_) (fun hb33 => ?_)
      · replace hb33 := cq_eq.1.mp hb33
        refine e_step (pc' := 58) hK rfl rfl rfl ?_
        try simp only [List.set_cons_zero, List.set_cons_succ]
        refine e_goto (t := 14) hK rfl (by decide) ?_
        exact ih (u + 1) _ ⟨by omega, by omega, lf_s hg (by rw [decide_eq_false (show ¬ (god A (t : Int) (u : Int) ≠ -9999) from fun q => q hb33), Bool.and_false])⟩
      · replace hb33 := cq_eq.2.mp hb33
        refine e_step (pc' := 37) hK rfl rfl rfl ?_
        refine e_step (pc' := 38) hK rfl rfl rfl ?_
        refine e_step (pc' := 39) hK rfl rfl rfl ?_
        refine e_cQV3 (z := 20) hK rfl rfl (by first | (simp (disch := omega) only [t0, f0, f1, f2, f3, f4, t1, l1, t2, l2, t3, l3, t4, l4, fn, fT, gP']; rfl) | (show _ = 2; assumption) | (show _ = 1; assumption) | (show _ = 0; assumption) | (show _ = 3; assumption) | (show _ = 4; assumption)) rfl (Nat.le_of_ble_eq_true rfl) (Nat.le_of_ble_eq_true rfl) (c_openWord hs0 (t : Int) _ (by omega) (by have q := god_b hB (t : Int) (u : Int); omega)) ?_
        rintro _ _ h2 ⟨rfl, rfl, hs2, hf2⟩
        refine ⟨by decide, ?_⟩
        rw [if_pos rfl]
        have tg2 := hs2.1.2.2.1
        show mv_Ev _ _ 42 _ _ _ _ _
        refine e_step (pc' := 43) hK rfl rfl rfl ?_
        refine e_step (pc' := 44) hK rfl rfl rfl ?_
        refine e_step (pc' := 45) hK rfl rfl rfl ?_
        refine e_cQV3 (z := 21) hK rfl rfl (by first | (simp (disch := omega) only [t0, f0, f1, f2, f3, f4, t1, l1, t2, l2, t3, l3, t4, l4, fn, fT, gP']; rfl) | (show _ = 2; assumption) | (show _ = 1; assumption) | (show _ = 0; assumption) | (show _ = 3; assumption) | (show _ = 4; assumption)) rfl (Nat.le_of_ble_eq_true rfl) (Nat.le_of_ble_eq_true rfl) (c_moveLines hs2 (u : Int) (t : Int) (by omega) (by omega) (by omega)) ?_
        rintro _ _ h3 ⟨rfl, rfl, hs3, hf3⟩
        refine ⟨by decide, ?_⟩
        rw [if_pos rfl]
        show mv_Ev _ _ 48 _ _ _ _ _
        refine e_step (pc' := 50) hK rfl rfl rfl ?_
        refine e_step (pc' := 51) hK rfl rfl rfl ?_
        refine e_step (pc' := 52) hK rfl rfl rfl ?_
        refine e_step (pc' := 53) hK rfl rfl rfl ?_
        refine e_step (pc' := 54) hK rfl rfl rfl ?_
        refine e_ret hK rfl rfl rfl ?_
        have e1 : glq A (t : Int) = u := lf_hit hg (by rw [decide_eq_true (show (t : Int) < u by omega), decide_eq_true hb33]; rfl) (by omega)
        have e2 : glt A = t := lf_hit hf (decide_eq_true (by rw [e1]; omega)) ht
        refine ⟨?_, rfl, ?_, fun b hb => (hf3 b hb).trans (hf2 b hb)⟩
        · unfold glv; rw [e2, if_neg (by omega), e1]
        · unfold gle; rw [e2, if_neg (by omega), e1]; exact hs3
set_option maxRecDepth 10000 in
theorem c_learnO {s : Int} {A : lg} (hs : StA h s A) : ∀ (m : Nat) (t : Nat) (a2 a3 : mv_V), t + m = gT A ∧ lf (fun t => decide (glq A t ≠ -9999)) t = -9999 → mv_Ev sc 98 2 [(2, s), (0, (t : Int)), a2, a3] [] c h (fun r c' h' => r = (0, glv A) ∧ c' = c ∧ StA h' s (gle A) ∧ mv_frm h h' s) := by
  intro m
  induction m with
  | zero =>
    intro t a2 a3 ⟨hi, hf⟩
    have hs0 := hs
    obtain ⟨⟨s1, s2, t0, f0, f1, f2, f3, f4, ⟨t1, l1⟩, ⟨t2, l2⟩, ⟨t3, l3⟩, ⟨t4, l4⟩, hl0⟩, hB, fn, fT, gL', gP', gS', gO'⟩ := hs
    have b1 := hB.1
    have b2 := hB.2.1
    have hK : (mv_m 98).1 = kc_Learn_learnFirstPair := rfl
    refine e_step (pc' := 3) hK rfl rfl rfl ?_
    refine e_step (pc' := 4) hK rfl rfl rfl ?_
    refine e_getI (ci := 2) (k := 6) (pc' := 7) hK rfl (by simp (disch := omega) only [t0, f0, f1, f2, f3, f4, t1, l1, t2, l2, t3, l3, t4, l4, fn, fT, gP']) rfl rfl (by decide) (by decide) rfl ?_
    try simp (disch := omega) only [t0, f0, f1, f2, f3, f4, t1, l1, t2, l2, t3, l3, t4, l4, fn, fT, gP']
    refine e_icmp (t := 67) (pc' := 10) hK rfl (by omega) (by omega) (by decide) rfl (fun hb7 => ?_) (fun hb7 => ?_)
    · replace hb7 := cq_ge.1.mp hb7
      refine e_step (pc' := 70) hK rfl rfl rfl ?_
      refine e_ret hK rfl rfl rfl ?_
      have e2 : glt A = -9999 := by { show lf _ _ = _; rw [show gT A = t from by omega]; exact hf }
      exact ⟨by rw [glv_none.mpr e2], rfl, by rw [gle_none (glv_none.mpr e2)]; exact hs0, fun b _ => rfl⟩
    · replace hb7 := cq_ge.2.mp hb7
      exfalso; first | omega | exact absurd trivial (by assumption)
  | succ m ih =>
    intro t a2 a3 ⟨hi, hf⟩
    have hs0 := hs
    obtain ⟨⟨s1, s2, t0, f0, f1, f2, f3, f4, ⟨t1, l1⟩, ⟨t2, l2⟩, ⟨t3, l3⟩, ⟨t4, l4⟩, hl0⟩, hB, fn, fT, gL', gP', gS', gO'⟩ := hs
    have b1 := hB.1
    have b2 := hB.2.1
    have hK : (mv_m 98).1 = kc_Learn_learnFirstPair := rfl
    refine e_step (pc' := 3) hK rfl rfl rfl ?_
    refine e_step (pc' := 4) hK rfl rfl rfl ?_
    refine e_getI (ci := 2) (k := 6) (pc' := 7) hK rfl (by simp (disch := omega) only [t0, f0, f1, f2, f3, f4, t1, l1, t2, l2, t3, l3, t4, l4, fn, fT, gP']) rfl rfl (by decide) (by decide) rfl ?_
    try simp (disch := omega) only [t0, f0, f1, f2, f3, f4, t1, l1, t2, l2, t3, l3, t4, l4, fn, fT, gP']
    refine e_icmp (t := 67) (pc' := 10) hK rfl (by omega) (by omega) (by decide) rfl (fun hb7 => ?_) (fun hb7 => ?_)
    · replace hb7 := cq_ge.1.mp hb7
      exfalso; first | omega | exact absurd trivial (by assumption)
    · replace hb7 := cq_ge.2.mp hb7
      refine e_step (pc' := 11) hK rfl rfl rfl ?_
      refine e_step (pc' := 12) hK rfl rfl rfl ?_
      refine e_step (pc' := 13) hK rfl rfl rfl ?_
      refine e_step (pc' := 14) hK rfl rfl rfl ?_
      try simp only [List.set_cons_zero, List.set_cons_succ]
      refine c_learnI hs0 t (by omega) hf (fun hq a2 a3 => ?_) (gT A - 1 - t) (t + 1) _ ⟨by omega, by omega, lf_n (fun j hj => by rw [decide_eq_false (by omega), Bool.false_and])⟩
      refine e_step (pc' := 64) hK rfl rfl rfl ?_
      refine e_goto (t := 2) hK rfl (by decide) ?_
      exact ih (t + 1) _ _ ⟨by omega, lf_s hf (decide_eq_false (fun q => q hq))⟩
set_option maxRecDepth 10000 in
theorem c_learnFirst {s : Int} {A : lg} (hs : StA h s A) : mv_Cl sc q_Learn_learnFirstPair [(2, s)] c h (fun r c' h' => r = (0, glv A) ∧ c' = c ∧ StA h' s (gle A) ∧ mv_frm h h' s) := by
  have hs0 := hs
  obtain ⟨⟨s1, s2, t0, f0, f1, f2, f3, f4, ⟨t1, l1⟩, ⟨t2, l2⟩, ⟨t3, l3⟩, ⟨t4, l4⟩, hl0⟩, hB, fn, fT, gL', gP', gS', gO'⟩ := hs
  have b1 := hB.1
  have b2 := hB.2.1
  show mv_Ev sc 98 0 [(2, s), (5, 0), (5, 0), (5, 0)] [] c h _
  have hK : (mv_m 98).1 = kc_Learn_learnFirstPair := rfl
  refine e_step (pc' := 1) hK rfl rfl rfl ?_
  refine e_step (pc' := 2) hK rfl rfl rfl ?_
  try simp only [List.set_cons_zero, List.set_cons_succ]
  exact c_learnO hs0 (gT A) 0 _ _ ⟨by omega, rfl⟩
set_option maxRecDepth 10000 in
theorem c_learnA1 {s : Int} {A : lg} : ∀ (m : Nat) (r : Nat) (hh : mv_H) (D : lg), r + m = 12 ∧ gall A 12 = gall D m ∧ StA hh s D ∧ mv_frm h hh s → mv_Ev sc 100 2 [(2, s), (0, (r : Int))] [] c hh (fun r c' h' => r = (3, 0) ∧ c' = c ∧ StA h' s (gall A 12) ∧ mv_frm h h' s) := by
  intro m
  induction m with
  | zero =>
    intro r hh D ⟨hi, hg, hs, hfr⟩
    have hs0 := hs
    obtain ⟨⟨s1, s2, t0, f0, f1, f2, f3, f4, ⟨t1, l1⟩, ⟨t2, l2⟩, ⟨t3, l3⟩, ⟨t4, l4⟩, hl0⟩, hB, fn, fT, gL', gP', gS', gO'⟩ := hs
    have b1 := hB.1
    have b2 := hB.2.1
    have hK : (mv_m 100).1 = kc_Learn_learnAllPairs := rfl
    refine e_step (pc' := 3) hK rfl rfl rfl ?_
    refine e_step (pc' := 5) hK rfl rfl rfl ?_
    refine e_icmp (t := 24) (pc' := 8) hK rfl (by first | omega | (have q := glt_b D; have q2 : glv D = -9999 ∨ (0 ≤ glv D ∧ glv D ≤ 2000) := by { unfold glv; split <;> omega }; omega)) (by first | omega | (have q := glt_b D; have q2 : glv D = -9999 ∨ (0 ≤ glv D ∧ glv D ≤ 2000) := by { unfold glv; split <;> omega }; omega)) (by decide) rfl (fun hb5 => ?_) (fun hb5 => ?_)
    · replace hb5 := cq_ge.1.mp hb5
      refine e_ret hK rfl rfl rfl ?_
      exact ⟨rfl, rfl, by rw [hg]; exact hs0, hfr⟩
    · replace hb5 := cq_ge.2.mp hb5
      exfalso; first | omega | exact absurd trivial (by assumption) | (first | omega | (have q := glt_b D; have q2 : glv D = -9999 ∨ (0 ≤ glv D ∧ glv D ≤ 2000) := by { unfold glv; split <;> omega }; omega))
  | succ m ih =>
    intro r hh D ⟨hi, hg, hs, hfr⟩
    have hs0 := hs
    obtain ⟨⟨s1, s2, t0, f0, f1, f2, f3, f4, ⟨t1, l1⟩, ⟨t2, l2⟩, ⟨t3, l3⟩, ⟨t4, l4⟩, hl0⟩, hB, fn, fT, gL', gP', gS', gO'⟩ := hs
    have b1 := hB.1
    have b2 := hB.2.1
    have hK : (mv_m 100).1 = kc_Learn_learnAllPairs := rfl
    refine e_step (pc' := 3) hK rfl rfl rfl ?_
    refine e_step (pc' := 5) hK rfl rfl rfl ?_
    refine e_icmp (t := 24) (pc' := 8) hK rfl (by first | omega | (have q := glt_b D; have q2 : glv D = -9999 ∨ (0 ≤ glv D ∧ glv D ≤ 2000) := by { unfold glv; split <;> omega }; omega)) (by first | omega | (have q := glt_b D; have q2 : glv D = -9999 ∨ (0 ≤ glv D ∧ glv D ≤ 2000) := by { unfold glv; split <;> omega }; omega)) (by decide) rfl (fun hb5 => ?_) (fun hb5 => ?_)
    · replace hb5 := cq_ge.1.mp hb5
      exfalso; first | omega | exact absurd trivial (by assumption) | (first | omega | (have q := glt_b D; have q2 : glv D = -9999 ∨ (0 ≤ glv D ∧ glv D ≤ 2000) := by { unfold glv; split <;> omega }; omega))
    · replace hb5 := cq_ge.2.mp hb5
      refine e_step (pc' := 9) hK rfl rfl rfl ?_
      refine e_cQS1 (z := 98) hK rfl rfl rfl (Nat.le_of_ble_eq_true rfl) (Nat.le_of_ble_eq_true rfl) (c_learnFirst hs0) ?_
      rintro _ _ h2 ⟨rfl, rfl, hs2, hf2⟩
      refine ⟨by show (0 : Nat) ≠ 4; decide, ?_⟩
      rw [if_neg (by show ¬ (0 : Nat) = 3; decide)]
      show mv_Ev _ _ 12 _ _ _ _ _
      refine e_step (pc' := 15) hK rfl rfl rfl ?_
      refine e_icmp (t := 24) (pc' := 18) hK rfl (by first | omega | (have q := glt_b D; have q2 : glv D = -9999 ∨ (0 ≤ glv D ∧ glv D ≤ 2000) := by { unfold glv; split <;> omega }; omega)) (by first | omega | (have q := glt_b D; have q2 : glv D = -9999 ∨ (0 ≤ glv D ∧ glv D ≤ 2000) := by { unfold glv; split <;> omega }; omega)) (by decide) rfl (fun hb15 => ?_) (fun hb15 => ?_)
      · replace hb15 := cq_eq.1.mp hb15
        refine e_ret hK rfl rfl rfl ?_
        refine ⟨rfl, rfl, ?_, fun b hb => (hf2 b hb).trans (hfr b hb)⟩
        rw [hg]
        rw [gle_none hb15] at hs2
        unfold gall
        rw [if_pos hb15]
        exact hs2
      · replace hb15 := cq_eq.2.mp hb15
        refine e_step (pc' := 21) hK rfl rfl rfl ?_
        try simp only [List.set_cons_zero, List.set_cons_succ]
        refine e_goto (t := 2) hK rfl (by decide) ?_
        exact ih (r + 1) h2 (gle D) ⟨by omega, by rw [hg]; exact if_neg hb15, hs2, fun b hb => (hf2 b hb).trans (hfr b hb)⟩
set_option maxRecDepth 10000 in
theorem c_learnAll {s : Int} {A : lg} (hs : StA h s A) : mv_Cl sc q_Learn_learnAllPairs [(2, s)] c h (fun r c' h' => r = (3, 0) ∧ c' = c ∧ StA h' s (gall A 12) ∧ mv_frm h h' s) := by
  have hs0 := hs
  obtain ⟨⟨s1, s2, t0, f0, f1, f2, f3, f4, ⟨t1, l1⟩, ⟨t2, l2⟩, ⟨t3, l3⟩, ⟨t4, l4⟩, hl0⟩, hB, fn, fT, gL', gP', gS', gO'⟩ := hs
  have b1 := hB.1
  have b2 := hB.2.1
  show mv_Ev sc 100 0 [(2, s), (5, 0)] [] c h _
  have hK : (mv_m 100).1 = kc_Learn_learnAllPairs := rfl
  refine e_step (pc' := 1) hK rfl rfl rfl ?_
  refine e_step (pc' := 2) hK rfl rfl rfl ?_
  try simp only [List.set_cons_zero, List.set_cons_succ]
  exact c_learnA1 12 0 h A ⟨rfl, rfl, hs0, fun _ _ => rfl⟩
end SL
