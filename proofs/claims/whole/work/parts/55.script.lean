/-! commands (written by wip/whole/m34.py) -/
section SC
variable {sc : Int × (Int → Int)} {c : mv_C} {h : mv_H}
set_option maxRecDepth 10000 in
theorem c_groups1 (v g : Int) (hv : 0 ≤ v) (hl : mv_l v) (hg : mv_i g) : ∀ (m : Nat) (i : Nat), (i + m = g.toNat) → mv_Ev sc 101 5 [(1, v), (5, 0), (0, g), (1, sg4 v i), (5, 0), (0, (i : Int))] [] c h (mv_Rd (1, sg4 v g.toNat) c h) := by
  intro m
  induction m with
  | zero =>
    intro i hi
    have b1 := sg4_b hv hl i
    have hK : (mv_m 101).1 = kc_Scr_withoutLowestGroups := rfl
    refine e_step (pc' := 7) hK rfl rfl rfl ?_
    refine e_step (pc' := 8) hK rfl rfl rfl ?_
    refine e_icmp (t := 23) (pc' := 11) hK rfl (by omega) (by omega) (by decide) rfl (fun hb8 => ?_) (fun hb8 => ?_)
    · replace hb8 := cq_ge.1.mp hb8
      refine e_step (pc' := 24) hK rfl rfl rfl ?_
      refine e_ret hK rfl rfl rfl ?_
      refine ⟨?_, rfl, rfl⟩
      congr 1
      rw [show g.toNat = i from by omega]
    · replace hb8 := cq_ge.2.mp hb8
      exfalso; first | omega | exact absurd trivial (by assumption)
  | succ m ih =>
    intro i hi
    have b1 := sg4_b hv hl i
    have hK : (mv_m 101).1 = kc_Scr_withoutLowestGroups := rfl
    refine e_step (pc' := 7) hK rfl rfl rfl ?_
    refine e_step (pc' := 8) hK rfl rfl rfl ?_
    refine e_icmp (t := 23) (pc' := 11) hK rfl (by omega) (by omega) (by decide) rfl (fun hb8 => ?_) (fun hb8 => ?_)
    · replace hb8 := cq_ge.1.mp hb8
      exfalso; first | omega | exact absurd trivial (by assumption)
    · replace hb8 := cq_ge.2.mp hb8
      refine e_step (pc' := 12) hK rfl rfl rfl ?_
      refine e_step (pc' := 15) hK rfl rfl rfl ?_
      refine e_ldiv (pc' := 16) hK rfl (by omega) (by omega) (by omega) rfl ?_
      refine e_step (pc' := 17) hK rfl rfl rfl ?_
      try simp only [List.set_cons_zero, List.set_cons_succ]
      refine e_step (pc' := 20) hK rfl rfl rfl ?_
      try simp only [List.set_cons_zero, List.set_cons_succ]
      refine e_goto (t := 5) hK rfl (by decide) ?_
      exact ih (i + 1) (by omega)
set_option maxRecDepth 10000 in
theorem c_groups (v g : Int) (hv : 0 ≤ v) (hl : mv_l v) (hg : mv_i g) : mv_Cl sc q_Scr_withoutLowestGroups [(1, v), (0, g)] c h (mv_Rd (1, sg4 v g.toNat) c h) := by
  show mv_Ev sc 101 0 [(1, v), (5, 0), (0, g), (5, 0), (5, 0), (5, 0)] [] c h _
  have hK : (mv_m 101).1 = kc_Scr_withoutLowestGroups := rfl
  refine e_step (pc' := 1) hK rfl rfl rfl ?_
  refine e_step (pc' := 2) hK rfl rfl rfl ?_
  try simp only [List.set_cons_zero, List.set_cons_succ]
  refine e_step (pc' := 3) hK rfl rfl rfl ?_
  refine e_step (pc' := 5) hK rfl rfl rfl ?_
  try simp only [List.set_cons_zero, List.set_cons_succ]
  exact c_groups1 v g hv hl hg g.toNat 0 (by omega)
set_option maxRecDepth 10000 in
theorem c_takesAgain {s : Int} {A : lg} (hs : StA h s A) (i : Int) (hi : mv_i i) : mv_Cl sc q_Scr_takesAgain [(2, s), (0, i)] c h (fun r c' h' => r = (0, mv_bo (gag A i).1) ∧ c' = c ∧ StA h' s (gag A i).2 ∧ mv_frm h h' s) := by
  have hs0 := hs
  obtain ⟨⟨s1, s2, t0, f0, f1, f2, f3, f4, ⟨t1, l1⟩, ⟨t2, l2⟩, ⟨t3, l3⟩, ⟨t4, l4⟩, hl0⟩, hB, fn, fT, gL', gP', gS', gO'⟩ := hs
  have b1 := hB.1
  have b2 := hB.2.1
  show mv_Ev sc 103 0 [(2, s), (0, i), (5, 0), (5, 0)] [] c h _
  have hK : (mv_m 103).1 = kc_Scr_takesAgain := rfl
  refine e_step (pc' := 1) hK rfl rfl rfl ?_
  refine e_step (pc' := 2) hK rfl rfl rfl ?_
  refine e_cRV2 (z := 26) (pc' := 5) hK rfl rfl (by first | (simp (disch := omega) only [t0, f0, f1, f2, f3, f4, t1, l1, t2, l2, t3, l3, t4, l4, fn, fT, gP']; rfl) | (show _ = 2; assumption) | (show _ = 1; assumption) | (show _ = 0; assumption) | (show _ = 3; assumption) | (show _ = 4; assumption)) rfl (Nat.le_of_ble_eq_true rfl) (Nat.le_of_ble_eq_true rfl) (c_lineAt hs0 i hi) (by decide) rfl ?_
  try simp (disch := omega) only [t0, f0, f1, f2, f3, f4, t1, l1, t2, l2, t3, l3, t4, l4, fn, fT, gP']
  refine e_step (pc' := 6) hK rfl rfl rfl ?_
  try simp only [List.set_cons_zero, List.set_cons_succ]
  refine e_step (pc' := 7) hK rfl rfl rfl ?_
  refine e_step (pc' := 8) hK rfl rfl rfl ?_
  refine e_cRV2 (z := 32) (pc' := 11) hK rfl rfl (by first | (simp (disch := omega) only [t0, f0, f1, f2, f3, f4, t1, l1, t2, l2, t3, l3, t4, l4, fn, fT, gP']; rfl) | (show _ = 2; assumption) | (show _ = 1; assumption) | (show _ = 0; assumption) | (show _ = 3; assumption) | (show _ = 4; assumption)) rfl (Nat.le_of_ble_eq_true rfl) (Nat.le_of_ble_eq_true rfl) (c_hasLine hs0 i hi) (by decide) rfl ?_
  try simp (disch := omega) only [t0, f0, f1, f2, f3, f4, t1, l1, t2, l2, t3, l3, t4, l4, fn, fT, gP']
  refine e_if (t := 22) (pc' := 14) hK rfl (by first | omega | exact bo_i _ | (have q := gtf_b hB (gl A i); omega)) (by decide) rfl (fun hb11 => ?_) (fun hb11 => ?_)
  · replace hb11 := cq_eq.1.mp hb11
    try simp only [bo_0, Bool.not_eq_false] at hb11
    refine e_step (pc' := 25) hK rfl rfl rfl ?_
    refine e_step (pc' := 26) hK rfl rfl rfl ?_
    try simp only [List.set_cons_zero, List.set_cons_succ]
    refine e_step (pc' := 27) hK rfl rfl rfl ?_
    refine e_step (pc' := 30) hK rfl rfl rfl ?_
    refine e_icmp (t := 35) (pc' := 33) hK rfl (by first | omega | exact bo_i _ | (have q := gtf_b hB (gl A i); omega)) (by first | omega | exact bo_i _ | (have q := gtf_b hB (gl A i); omega)) (by decide) rfl (fun hb30 => ?_) (fun hb30 => ?_)
    · replace hb30 := cq_ne.1.mp hb30
      try simp only [bo_0, Bool.not_eq_false] at hb30
      exfalso; first | omega | exact absurd trivial (by assumption) | (first | omega | exact bo_i _ | (have q := gtf_b hB (gl A i); omega))
    · replace hb30 := cq_ne.2.mp hb30
      try simp only [bo_0, Bool.not_eq_false] at hb30
      refine e_step (pc' := 34) hK rfl rfl rfl ?_
      refine e_ret hK rfl rfl (by first | rfl | (simp only [mv_ret]; rw [if_pos]; exact Or.inr ⟨rfl, by omega⟩) | (simp only [mv_ret]; rw [if_pos]; exact Or.inr ⟨rfl, by unfold mv_bo; split <;> first | exact Or.inl rfl | exact Or.inr rfl⟩)) ?_
      have hno : ¬ (0 ≤ i ∧ i < gn A) := by { intro q; rw [decide_eq_true q.1, decide_eq_true q.2] at hb11; cases hb11 }
      unfold gag
      rw [if_neg hno]
      exact ⟨rfl, rfl, hs0, fun b _ => rfl⟩
  · replace hb11 := cq_eq.2.mp hb11
    try simp only [bo_0, Bool.not_eq_false] at hb11
    refine e_step (pc' := 15) hK rfl rfl rfl ?_
    refine e_step (pc' := 16) hK rfl rfl rfl ?_
    refine e_cRV2 (z := 29) (pc' := 19) hK rfl rfl (by first | (simp (disch := omega) only [t0, f0, f1, f2, f3, f4, t1, l1, t2, l2, t3, l3, t4, l4, fn, fT, gP']; rfl) | (show _ = 2; assumption) | (show _ = 1; assumption) | (show _ = 0; assumption) | (show _ = 3; assumption) | (show _ = 4; assumption)) rfl (Nat.le_of_ble_eq_true rfl) (Nat.le_of_ble_eq_true rfl) (c_templateFor hs0 (hs0.lr i)) (by decide) rfl ?_
    try simp (disch := omega) only [t0, f0, f1, f2, f3, f4, t1, l1, t2, l2, t3, l3, t4, l4, fn, fT, gP']
    refine e_goto (t := 25) hK rfl (by decide) ?_
    refine e_step (pc' := 26) hK rfl rfl rfl ?_
    try simp only [List.set_cons_zero, List.set_cons_succ]
    refine e_step (pc' := 27) hK rfl rfl rfl ?_
    refine e_step (pc' := 30) hK rfl rfl rfl ?_
    refine e_icmp (t := 35) (pc' := 33) hK rfl (by first | omega | exact bo_i _ | (have q := gtf_b hB (gl A i); omega)) (by first | omega | exact bo_i _ | (have q := gtf_b hB (gl A i); omega)) (by decide) rfl (fun hb30 => ?_) (fun hb30 => ?_)
    · replace hb30 := cq_ne.1.mp hb30
      try simp only [bo_0, Bool.not_eq_false] at hb30
      refine e_step (pc' := 36) hK rfl rfl rfl ?_
      refine e_step (pc' := 37) hK rfl rfl rfl ?_
      refine e_step (pc' := 38) hK rfl rfl rfl ?_
      refine e_cQV3 (z := 30) hK rfl rfl (by first | (simp (disch := omega) only [t0, f0, f1, f2, f3, f4, t1, l1, t2, l2, t3, l3, t4, l4, fn, fT, gP']; rfl) | (show _ = 2; assumption) | (show _ = 1; assumption) | (show _ = 0; assumption) | (show _ = 3; assumption) | (show _ = 4; assumption)) rfl (Nat.le_of_ble_eq_true rfl) (Nat.le_of_ble_eq_true rfl) (c_put hs0 (hs0.lr i) _ (by have q := gtf_b hB (gl A i); omega)) ?_
      rintro _ _ h2 ⟨rfl, rfl, hs2, hf2⟩
      refine ⟨by decide, ?_⟩
      rw [if_pos rfl]
      show mv_Ev _ _ 41 _ _ _ _ _
      refine e_step (pc' := 42) hK rfl rfl rfl ?_
      refine e_ret hK rfl rfl (by first | rfl | (simp only [mv_ret]; rw [if_pos]; exact Or.inr ⟨rfl, by omega⟩) | (simp only [mv_ret]; rw [if_pos]; exact Or.inr ⟨rfl, by unfold mv_bo; split <;> first | exact Or.inl rfl | exact Or.inr rfl⟩)) ?_
      obtain ⟨hi0, hi1⟩ : 0 ≤ i ∧ i < gn A := by simpa only [Bool.and_eq_true, decide_eq_true_eq] using hb11
      unfold gag
      rw [if_pos ⟨hi0, hi1⟩, if_neg hb30]
      exact ⟨rfl, rfl, hs2, hf2⟩
    · replace hb30 := cq_ne.2.mp hb30
      try simp only [bo_0, Bool.not_eq_false] at hb30
      refine e_step (pc' := 34) hK rfl rfl rfl ?_
      refine e_ret hK rfl rfl (by first | rfl | (simp only [mv_ret]; rw [if_pos]; exact Or.inr ⟨rfl, by omega⟩) | (simp only [mv_ret]; rw [if_pos]; exact Or.inr ⟨rfl, by unfold mv_bo; split <;> first | exact Or.inl rfl | exact Or.inr rfl⟩)) ?_
      obtain ⟨hi0, hi1⟩ : 0 ≤ i ∧ i < gn A := by simpa only [Bool.and_eq_true, decide_eq_true_eq] using hb11
      unfold gag
      rw [if_pos ⟨hi0, hi1⟩, if_pos hb30]
      exact ⟨rfl, rfl, hs0, fun b _ => rfl⟩
set_option maxRecDepth 10000 in
theorem c_removes {s : Int} {A : lg} (hs : StA h s A) (i : Int) (hi : mv_i i) : mv_Cl sc q_Scr_removes [(2, s), (0, i)] c h (fun r c' h' => r = (0, mv_bo (grm A i).1) ∧ c' = c ∧ StA h' s (grm A i).2 ∧ mv_frm h h' s) := by
  have hs0 := hs
  obtain ⟨⟨s1, s2, t0, f0, f1, f2, f3, f4, ⟨t1, l1⟩, ⟨t2, l2⟩, ⟨t3, l3⟩, ⟨t4, l4⟩, hl0⟩, hB, fn, fT, gL', gP', gS', gO'⟩ := hs
  have b1 := hB.1
  have b2 := hB.2.1
  show mv_Ev sc 104 0 [(2, s), (0, i)] [] c h _
  have hK : (mv_m 104).1 = kc_Scr_removes := rfl
  refine e_step (pc' := 1) hK rfl rfl rfl ?_
  refine e_step (pc' := 2) hK rfl rfl rfl ?_
  refine e_cRV2 (z := 32) (pc' := 5) hK rfl rfl (by first | (simp (disch := omega) only [t0, f0, f1, f2, f3, f4, t1, l1, t2, l2, t3, l3, t4, l4, fn, fT, gP']; rfl) | (show _ = 2; assumption) | (show _ = 1; assumption) | (show _ = 0; assumption) | (show _ = 3; assumption) | (show _ = 4; assumption)) rfl (Nat.le_of_ble_eq_true rfl) (Nat.le_of_ble_eq_true rfl) (c_hasLine hs0 i hi) (by decide) rfl ?_
  try simp (disch := omega) only [t0, f0, f1, f2, f3, f4, t1, l1, t2, l2, t3, l3, t4, l4, fn, fT, gP']
  refine e_if (t := 10) (pc' := 8) hK rfl (by first | omega | exact bo_i _) (by decide) rfl (fun hb5 => ?_) (fun hb5 => ?_)
  · replace hb5 := cq_ne.1.mp hb5
    try simp only [bo_0, Bool.not_eq_false] at hb5
    refine e_step (pc' := 11) hK rfl rfl rfl ?_
    refine e_step (pc' := 12) hK rfl rfl rfl ?_
    refine e_cQV2 (z := 31) hK rfl rfl (by first | (simp (disch := omega) only [t0, f0, f1, f2, f3, f4, t1, l1, t2, l2, t3, l3, t4, l4, fn, fT, gP']; rfl) | (show _ = 2; assumption) | (show _ = 1; assumption) | (show _ = 0; assumption) | (show _ = 3; assumption) | (show _ = 4; assumption)) rfl (Nat.le_of_ble_eq_true rfl) (Nat.le_of_ble_eq_true rfl) (c_dropLine hs0 i hi) ?_
    rintro _ _ h2 ⟨rfl, rfl, hs2, hf2⟩
    refine ⟨by decide, ?_⟩
    rw [if_pos rfl]
    show mv_Ev _ _ 15 _ _ _ _ _
    refine e_step (pc' := 16) hK rfl rfl rfl ?_
    refine e_ret hK rfl rfl (by first | rfl | (simp only [mv_ret]; rw [if_pos]; exact Or.inr ⟨rfl, by omega⟩) | (simp only [mv_ret]; rw [if_pos]; exact Or.inr ⟨rfl, by unfold mv_bo; split <;> first | exact Or.inl rfl | exact Or.inr rfl⟩)) ?_
    obtain ⟨hi0, hi1⟩ : 0 ≤ i ∧ i < gn A := by simpa only [Bool.and_eq_true, decide_eq_true_eq] using hb5
    unfold grm
    rw [if_pos ⟨hi0, hi1⟩]
    exact ⟨rfl, rfl, hs2, hf2⟩
  · replace hb5 := cq_ne.2.mp hb5
    try simp only [bo_0, Bool.not_eq_false] at hb5
    refine e_step (pc' := 9) hK rfl rfl rfl ?_
    refine e_ret hK rfl rfl (by first | rfl | (simp only [mv_ret]; rw [if_pos]; exact Or.inr ⟨rfl, by omega⟩) | (simp only [mv_ret]; rw [if_pos]; exact Or.inr ⟨rfl, by unfold mv_bo; split <;> first | exact Or.inl rfl | exact Or.inr rfl⟩)) ?_
    have hno : ¬ (0 ≤ i ∧ i < gn A) := by { intro q; rw [decide_eq_true q.1, decide_eq_true q.2] at hb5; cases hb5 }
    unfold grm
    rw [if_neg hno]
    exact ⟨rfl, rfl, hs0, fun b _ => rfl⟩
set_option maxRecDepth 10000 in
theorem c_opens {s : Int} {A : lg} (hs : StA h s A) (t q : Int) (ht : mv_i t) (hq : mv_i q) : mv_Cl sc q_Scr_opens [(2, s), (0, t), (0, q)] c h (fun r c' h' => r = (0, mv_bo (gop A t q).1) ∧ c' = c ∧ StA h' s (gop A t q).2 ∧ mv_frm h h' s) := by
  have hs0 := hs
  obtain ⟨⟨s1, s2, t0, f0, f1, f2, f3, f4, ⟨t1, l1⟩, ⟨t2, l2⟩, ⟨t3, l3⟩, ⟨t4, l4⟩, hl0⟩, hB, fn, fT, gL', gP', gS', gO'⟩ := hs
  have b1 := hB.1
  have b2 := hB.2.1
  show mv_Ev sc 105 0 [(2, s), (0, t), (0, q)] [] c h _
  have hK : (mv_m 105).1 = kc_Scr_opens := rfl
  refine e_step (pc' := 1) hK rfl rfl rfl ?_
  refine e_step (pc' := 2) hK rfl rfl rfl ?_
  refine e_step (pc' := 3) hK rfl rfl rfl ?_
  refine e_cRV3 (z := 18) (pc' := 6) hK rfl rfl (by first | (simp (disch := omega) only [t0, f0, f1, f2, f3, f4, t1, l1, t2, l2, t3, l3, t4, l4, fn, fT, gP']; rfl) | (show _ = 2; assumption) | (show _ = 1; assumption) | (show _ = 0; assumption) | (show _ = 3; assumption) | (show _ = 4; assumption)) rfl (Nat.le_of_ble_eq_true rfl) (Nat.le_of_ble_eq_true rfl) (c_kindIn hs0 t q ht hq) (by decide) rfl ?_
  try simp (disch := omega) only [t0, f0, f1, f2, f3, f4, t1, l1, t2, l2, t3, l3, t4, l4, fn, fT, gP']
  refine e_if (t := 11) (pc' := 9) hK rfl (by first | omega | (have q1 := gk_b hB t q; omega)) (by decide) rfl (fun hb6 => ?_) (fun hb6 => ?_)
  · replace hb6 := cq_eq.1.mp hb6
    refine e_step (pc' := 12) hK rfl rfl rfl ?_
    refine e_step (pc' := 13) hK rfl rfl rfl ?_
    refine e_step (pc' := 14) hK rfl rfl rfl ?_
    refine e_cQV3 (z := 20) hK rfl rfl (by first | (simp (disch := omega) only [t0, f0, f1, f2, f3, f4, t1, l1, t2, l2, t3, l3, t4, l4, fn, fT, gP']; rfl) | (show _ = 2; assumption) | (show _ = 1; assumption) | (show _ = 0; assumption) | (show _ = 3; assumption) | (show _ = 4; assumption)) rfl (Nat.le_of_ble_eq_true rfl) (Nat.le_of_ble_eq_true rfl) (c_openWord hs0 t q ht hq) ?_
    rintro _ _ h2 ⟨rfl, rfl, hs2, hf2⟩
    refine ⟨by decide, ?_⟩
    rw [if_pos rfl]
    show mv_Ev _ _ 17 _ _ _ _ _
    refine e_step (pc' := 18) hK rfl rfl rfl ?_
    refine e_ret hK rfl rfl (by first | rfl | (simp only [mv_ret]; rw [if_pos]; exact Or.inr ⟨rfl, by omega⟩) | (simp only [mv_ret]; rw [if_pos]; exact Or.inr ⟨rfl, by unfold mv_bo; split <;> first | exact Or.inl rfl | exact Or.inr rfl⟩)) ?_
    unfold gop
    rw [if_pos hb6]
    exact ⟨rfl, rfl, hs2, hf2⟩
  · replace hb6 := cq_eq.2.mp hb6
    refine e_step (pc' := 10) hK rfl rfl rfl ?_
    refine e_ret hK rfl rfl (by first | rfl | (simp only [mv_ret]; rw [if_pos]; exact Or.inr ⟨rfl, by omega⟩) | (simp only [mv_ret]; rw [if_pos]; exact Or.inr ⟨rfl, by unfold mv_bo; split <;> first | exact Or.inl rfl | exact Or.inr rfl⟩)) ?_
    unfold gop
    rw [if_neg hb6]
    exact ⟨rfl, rfl, hs0, fun b _ => rfl⟩
theorem StW.kp2 {h h' : mv_H} {s u : Int} (hs : StW h u) (hf : mv_frm h h' s) (s1 : 165 ≤ s) (s2 : s ≤ 258) (hd : s + 5 ≤ u ∨ u + 5 ≤ s) : StW h' u := hs.kp (fun b hb => hf b (by omega))
set_option maxRecDepth 10000 in
theorem c_succeeds {s : Int} {A : lg} (hs : StA h s A) {u : Int} (hw : StW h u) (hd : s + 5 ≤ u ∨ u + 5 ≤ s) (cmd : Int) (hc : 0 ≤ cmd) (hc2 : cmd ≤ 9999) : mv_Cl sc q_Scr_succeeds [(0, cmd), (2, s), (2, u)] c h (fun r c' h' => r = (0, mv_bo (gcm A (cmd.tdiv 1000) (cmd.tmod 1000)).1) ∧ c' = c ∧ StA h' s (gcm A (cmd.tdiv 1000) (cmd.tmod 1000)).2 ∧ StW h' u ∧ ∀ b : Int, ((b < s ∨ s + 4 < b) ∧ (b < u ∨ u + 4 < b)) → h' b = h b) := by
  have hs0 := hs
  obtain ⟨⟨s1, s2, t0, f0, f1, f2, f3, f4, ⟨t1, l1⟩, ⟨t2, l2⟩, ⟨t3, l3⟩, ⟨t4, l4⟩, hl0⟩, hB, fn, fT, gL', gP', gS', gO'⟩ := hs
  have b1 := hB.1
  have b2 := hB.2.1
  have u0 := hw.2.2.1
  have u1 := hw.1
  have u2 := hw.2.1
  have e1 : cmd.tmod 1000 = cmd % 1000 := Int.tmod_eq_emod_of_nonneg hc
  have e2 : cmd.tdiv 1000 = cmd / 1000 := Int.tdiv_eq_ediv_of_nonneg hc
  have e3 : (cmd.tmod 1000).tmod 10 = (cmd.tmod 1000) % 10 := Int.tmod_eq_emod_of_nonneg (by omega)
  have e4 : (cmd.tmod 1000).tdiv 10 = (cmd.tmod 1000) / 10 := Int.tdiv_eq_ediv_of_nonneg (by omega)
  have e5 : ((cmd.tmod 1000).tdiv 10).tmod 10 = ((cmd.tmod 1000).tdiv 10) % 10 := Int.tmod_eq_emod_of_nonneg (by omega)
  have e6 : ((cmd.tmod 1000).tdiv 10).tdiv 10 = ((cmd.tmod 1000).tdiv 10) / 10 := Int.tdiv_eq_ediv_of_nonneg (by omega)
  show mv_Ev sc 102 0 [(0, cmd), (2, s), (2, u), (5, 0), (5, 0), (5, 0)] [] c h _
  have hK : (mv_m 102).1 = kc_Scr_succeeds := rfl
  refine e_step (pc' := 1) hK rfl rfl rfl ?_
  refine e_step (pc' := 4) hK rfl rfl rfl ?_
  refine e_irem (pc' := 5) hK rfl (by first | omega | exact bo_i _ | (have q1 := glv_b hB; omega) | (have q1 := cal_b hB; omega) | (have q1 := gt_b hB ((cmd.tmod 1000).tdiv 10); omega)) (by first | omega | exact bo_i _ | (have q1 := glv_b hB; omega) | (have q1 := cal_b hB; omega) | (have q1 := gt_b hB ((cmd.tmod 1000).tdiv 10); omega)) (by first | omega | exact bo_i _ | (have q1 := glv_b hB; omega) | (have q1 := cal_b hB; omega) | (have q1 := gt_b hB ((cmd.tmod 1000).tdiv 10); omega)) rfl ?_
  refine e_step (pc' := 6) hK rfl rfl rfl ?_
  try simp only [List.set_cons_zero, List.set_cons_succ]
  refine e_step (pc' := 7) hK rfl rfl rfl ?_
  refine e_step (pc' := 9) hK rfl rfl rfl ?_
  refine e_idiv (pc' := 10) hK rfl (by first | omega | exact bo_i _ | (have q1 := glv_b hB; omega) | (have q1 := cal_b hB; omega) | (have q1 := gt_b hB ((cmd.tmod 1000).tdiv 10); omega)) (by first | omega | exact bo_i _ | (have q1 := glv_b hB; omega) | (have q1 := cal_b hB; omega) | (have q1 := gt_b hB ((cmd.tmod 1000).tdiv 10); omega)) (by first | omega | exact bo_i _ | (have q1 := glv_b hB; omega) | (have q1 := cal_b hB; omega) | (have q1 := gt_b hB ((cmd.tmod 1000).tdiv 10); omega)) rfl ?_
  refine e_step (pc' := 12) hK rfl rfl rfl ?_
  try simp only [List.set_cons_zero, List.set_cons_succ]
  refine e_step (pc' := 13) hK rfl rfl rfl ?_
  refine e_step (pc' := 15) hK rfl rfl rfl ?_
  refine e_irem (pc' := 16) hK rfl (by first | omega | exact bo_i _ | (have q1 := glv_b hB; omega) | (have q1 := cal_b hB; omega) | (have q1 := gt_b hB ((cmd.tmod 1000).tdiv 10); omega)) (by first | omega | exact bo_i _ | (have q1 := glv_b hB; omega) | (have q1 := cal_b hB; omega) | (have q1 := gt_b hB ((cmd.tmod 1000).tdiv 10); omega)) (by first | omega | exact bo_i _ | (have q1 := glv_b hB; omega) | (have q1 := cal_b hB; omega) | (have q1 := gt_b hB ((cmd.tmod 1000).tdiv 10); omega)) rfl ?_
  refine e_step (pc' := 18) hK rfl rfl rfl ?_
  try simp only [List.set_cons_zero, List.set_cons_succ]
  refine e_step (pc' := 19) hK rfl rfl rfl ?_
  refine e_step (pc' := 22) hK rfl rfl rfl ?_
  refine e_idiv (pc' := 23) hK rfl (by first | omega | exact bo_i _ | (have q1 := glv_b hB; omega) | (have q1 := cal_b hB; omega) | (have q1 := gt_b hB ((cmd.tmod 1000).tdiv 10); omega)) (by first | omega | exact bo_i _ | (have q1 := glv_b hB; omega) | (have q1 := cal_b hB; omega) | (have q1 := gt_b hB ((cmd.tmod 1000).tdiv 10); omega)) (by first | omega | exact bo_i _ | (have q1 := glv_b hB; omega) | (have q1 := cal_b hB; omega) | (have q1 := gt_b hB ((cmd.tmod 1000).tdiv 10); omega)) rfl ?_
  refine e_tsw (td := 259) hK rfl (by first | omega | exact bo_i _ | (have q1 := glv_b hB; omega) | (have q1 := cal_b hB; omega) | (have q1 := gt_b hB ((cmd.tmod 1000).tdiv 10); omega)) rfl (by decide) (by decide) (fun hb23 => ?_) (fun j hj hb23 => ?_)
  · skip
    refine e_step (pc' := 260) hK rfl rfl rfl ?_
    refine e_ret hK rfl rfl (by first | rfl | (simp only [mv_ret]; rw [if_pos]; exact Or.inr ⟨rfl, by omega⟩) | (simp only [mv_ret]; rw [if_pos]; exact Or.inr ⟨rfl, by unfold mv_bo; split <;> first | exact Or.inl rfl | exact Or.inr rfl⟩)) ?_
    rw [show gcm A (cmd.tdiv 1000) (cmd.tmod 1000) = (false, A) from by { unfold gcm; (iterate 9 (rw [if_neg (by omega)])) }]
    exact ⟨rfl, rfl, hs0, hw, fun b _ => rfl⟩
  · skip
    rcases j with _ | j
    · show mv_Ev _ _ 72 _ _ _ _ _
      refine e_step (pc' := 74) hK rfl rfl rfl ?_
      refine e_if (t := 90) (pc' := 77) hK rfl (by first | omega | exact bo_i _ | (have q1 := glv_b hB; omega) | (have q1 := cal_b hB; omega) | (have q1 := gt_b hB ((cmd.tmod 1000).tdiv 10); omega)) (by decide) rfl (fun hb74 => ?_) (fun hb74 => ?_)
      · replace hb74 := cq_ne.1.mp hb74
        try simp only [bo_0, Bool.not_eq_false] at hb74
        refine e_step (pc' := 91) hK rfl rfl rfl ?_
        refine e_ret hK rfl rfl (by first | rfl | (simp only [mv_ret]; rw [if_pos]; exact Or.inr ⟨rfl, by omega⟩) | (simp only [mv_ret]; rw [if_pos]; exact Or.inr ⟨rfl, by unfold mv_bo; split <;> first | exact Or.inl rfl | exact Or.inr rfl⟩)) ?_
        have eg : gcm A (cmd.tdiv 1000) (cmd.tmod 1000) = (false, A) := by { unfold gcm; rw [if_pos (by omega)]; rw [if_neg hb74] }
        rw [eg]
        exact ⟨rfl, rfl, hs0, hw, fun b _ => rfl⟩
      · replace hb74 := cq_ne.2.mp hb74
        try simp only [bo_0, Bool.not_eq_false] at hb74
        refine e_step (pc' := 78) hK rfl rfl rfl ?_
        refine e_step (pc' := 80) hK rfl rfl rfl ?_
        refine e_cQS2 (z := 103) hK rfl rfl rfl (Nat.le_of_ble_eq_true rfl) (Nat.le_of_ble_eq_true rfl) (c_takesAgain hs0 ((cmd.tmod 1000).tdiv 10) (by omega)) ?_
        rintro _ _ h2 ⟨rfl, rfl, hs2, hf2⟩
        refine ⟨by show (0 : Nat) ≠ 4; decide, ?_⟩
        rw [if_neg (by show ¬ (0 : Nat) = 3; decide)]
        try dsimp only
        show mv_Ev _ _ 83 _ _ _ _ _
        refine e_if (t := 90) (pc' := 86) hK rfl (by first | omega | exact bo_i _ | (have q1 := glv_b hB; omega) | (have q1 := cal_b hB; omega) | (have q1 := gt_b hB ((cmd.tmod 1000).tdiv 10); omega)) (by decide) rfl (fun hb83 => ?_) (fun hb83 => ?_)
        · replace hb83 := cq_eq.1.mp hb83
          try simp only [bo_0, Bool.not_eq_false] at hb83
          refine e_step (pc' := 91) hK rfl rfl rfl ?_
          refine e_ret hK rfl rfl (by first | rfl | (simp only [mv_ret]; rw [if_pos]; exact Or.inr ⟨rfl, by omega⟩) | (simp only [mv_ret]; rw [if_pos]; exact Or.inr ⟨rfl, by unfold mv_bo; split <;> first | exact Or.inl rfl | exact Or.inr rfl⟩)) ?_
          have eg : gcm A (cmd.tdiv 1000) (cmd.tmod 1000) = gag A ((cmd.tmod 1000).tdiv 10) := by { unfold gcm; rw [if_pos (by omega)]; rw [if_pos hb74] }
          rw [eg]
          exact ⟨by rw [hb83]; rfl, rfl, hs2, hw.kp2 hf2 s1 s2 hd, fun b hb => hf2 b hb.1⟩
        · replace hb83 := cq_eq.2.mp hb83
          try simp only [bo_0, Bool.not_eq_false] at hb83
          refine e_step (pc' := 87) hK rfl rfl rfl ?_
          refine e_goto (t := 91) hK rfl (by decide) ?_
          refine e_ret hK rfl rfl (by first | rfl | (simp only [mv_ret]; rw [if_pos]; exact Or.inr ⟨rfl, by omega⟩) | (simp only [mv_ret]; rw [if_pos]; exact Or.inr ⟨rfl, by unfold mv_bo; split <;> first | exact Or.inl rfl | exact Or.inr rfl⟩)) ?_
          have eg : gcm A (cmd.tdiv 1000) (cmd.tmod 1000) = gag A ((cmd.tmod 1000).tdiv 10) := by { unfold gcm; rw [if_pos (by omega)]; rw [if_pos hb74] }
          rw [eg]
          exact ⟨by rw [hb83]; rfl, rfl, hs2, hw.kp2 hf2 s1 s2 hd, fun b hb => hf2 b hb.1⟩
    · skip
      rcases j with _ | j
      · show mv_Ev _ _ 92 _ _ _ _ _
        refine e_step (pc' := 94) hK rfl rfl rfl ?_
        refine e_if (t := 110) (pc' := 97) hK rfl (by first | omega | exact bo_i _ | (have q1 := glv_b hB; omega) | (have q1 := cal_b hB; omega) | (have q1 := gt_b hB ((cmd.tmod 1000).tdiv 10); omega)) (by decide) rfl (fun hb94 => ?_) (fun hb94 => ?_)
        · replace hb94 := cq_ne.1.mp hb94
          try simp only [bo_0, Bool.not_eq_false] at hb94
          refine e_step (pc' := 111) hK rfl rfl rfl ?_
          refine e_ret hK rfl rfl (by first | rfl | (simp only [mv_ret]; rw [if_pos]; exact Or.inr ⟨rfl, by omega⟩) | (simp only [mv_ret]; rw [if_pos]; exact Or.inr ⟨rfl, by unfold mv_bo; split <;> first | exact Or.inl rfl | exact Or.inr rfl⟩)) ?_
          have eg : gcm A (cmd.tdiv 1000) (cmd.tmod 1000) = (false, A) := by { unfold gcm; rw [if_neg (by omega)]; rw [if_pos (by omega)]; rw [if_neg hb94] }
          rw [eg]
          exact ⟨rfl, rfl, hs0, hw, fun b _ => rfl⟩
        · replace hb94 := cq_ne.2.mp hb94
          try simp only [bo_0, Bool.not_eq_false] at hb94
          refine e_step (pc' := 98) hK rfl rfl rfl ?_
          refine e_step (pc' := 100) hK rfl rfl rfl ?_
          refine e_cQS2 (z := 104) hK rfl rfl rfl (Nat.le_of_ble_eq_true rfl) (Nat.le_of_ble_eq_true rfl) (c_removes hs0 ((cmd.tmod 1000).tdiv 10) (by omega)) ?_
          rintro _ _ h2 ⟨rfl, rfl, hs2, hf2⟩
          refine ⟨by show (0 : Nat) ≠ 4; decide, ?_⟩
          rw [if_neg (by show ¬ (0 : Nat) = 3; decide)]
          try dsimp only
          show mv_Ev _ _ 103 _ _ _ _ _
          refine e_if (t := 110) (pc' := 106) hK rfl (by first | omega | exact bo_i _ | (have q1 := glv_b hB; omega) | (have q1 := cal_b hB; omega) | (have q1 := gt_b hB ((cmd.tmod 1000).tdiv 10); omega)) (by decide) rfl (fun hb103 => ?_) (fun hb103 => ?_)
          · replace hb103 := cq_eq.1.mp hb103
            try simp only [bo_0, Bool.not_eq_false] at hb103
            refine e_step (pc' := 111) hK rfl rfl rfl ?_
            refine e_ret hK rfl rfl (by first | rfl | (simp only [mv_ret]; rw [if_pos]; exact Or.inr ⟨rfl, by omega⟩) | (simp only [mv_ret]; rw [if_pos]; exact Or.inr ⟨rfl, by unfold mv_bo; split <;> first | exact Or.inl rfl | exact Or.inr rfl⟩)) ?_
            have eg : gcm A (cmd.tdiv 1000) (cmd.tmod 1000) = grm A ((cmd.tmod 1000).tdiv 10) := by { unfold gcm; rw [if_neg (by omega)]; rw [if_pos (by omega)]; rw [if_pos hb94] }
            rw [eg]
            exact ⟨by rw [hb103]; rfl, rfl, hs2, hw.kp2 hf2 s1 s2 hd, fun b hb => hf2 b hb.1⟩
          · replace hb103 := cq_eq.2.mp hb103
            try simp only [bo_0, Bool.not_eq_false] at hb103
            refine e_step (pc' := 107) hK rfl rfl rfl ?_
            refine e_goto (t := 111) hK rfl (by decide) ?_
            refine e_ret hK rfl rfl (by first | rfl | (simp only [mv_ret]; rw [if_pos]; exact Or.inr ⟨rfl, by omega⟩) | (simp only [mv_ret]; rw [if_pos]; exact Or.inr ⟨rfl, by unfold mv_bo; split <;> first | exact Or.inl rfl | exact Or.inr rfl⟩)) ?_
            have eg : gcm A (cmd.tdiv 1000) (cmd.tmod 1000) = grm A ((cmd.tmod 1000).tdiv 10) := by { unfold gcm; rw [if_neg (by omega)]; rw [if_pos (by omega)]; rw [if_pos hb94] }
            rw [eg]
            exact ⟨by rw [hb103]; rfl, rfl, hs2, hw.kp2 hf2 s1 s2 hd, fun b hb => hf2 b hb.1⟩
      · skip
        rcases j with _ | j
        · show mv_Ev _ _ 112 _ _ _ _ _
          refine e_step (pc' := 113) hK rfl rfl rfl ?_
          refine e_if (t := 130) (pc' := 116) hK rfl (by first | omega | exact bo_i _ | (have q1 := glv_b hB; omega) | (have q1 := cal_b hB; omega) | (have q1 := gt_b hB ((cmd.tmod 1000).tdiv 10); omega)) (by decide) rfl (fun hb113 => ?_) (fun hb113 => ?_)
          · replace hb113 := cq_ne.1.mp hb113
            try simp only [bo_0, Bool.not_eq_false] at hb113
            refine e_step (pc' := 131) hK rfl rfl rfl ?_
            refine e_ret hK rfl rfl (by first | rfl | (simp only [mv_ret]; rw [if_pos]; exact Or.inr ⟨rfl, by omega⟩) | (simp only [mv_ret]; rw [if_pos]; exact Or.inr ⟨rfl, by unfold mv_bo; split <;> first | exact Or.inl rfl | exact Or.inr rfl⟩)) ?_
            have eg : gcm A (cmd.tdiv 1000) (cmd.tmod 1000) = (false, A) := by { unfold gcm; rw [if_neg (by omega)]; rw [if_neg (by omega)]; rw [if_pos (by omega)]; rw [if_neg hb113] }
            rw [eg]
            exact ⟨rfl, rfl, hs0, hw, fun b _ => rfl⟩
          · replace hb113 := cq_ne.2.mp hb113
            try simp only [bo_0, Bool.not_eq_false] at hb113
            refine e_step (pc' := 117) hK rfl rfl rfl ?_
            refine e_cQS1 (z := 98) hK rfl rfl rfl (Nat.le_of_ble_eq_true rfl) (Nat.le_of_ble_eq_true rfl) (c_learnFirst hs0) ?_
            rintro _ _ h2 ⟨rfl, rfl, hs2, hf2⟩
            refine ⟨by show (0 : Nat) ≠ 4; decide, ?_⟩
            rw [if_neg (by show ¬ (0 : Nat) = 3; decide)]
            try dsimp only
            show mv_Ev _ _ 120 _ _ _ _ _
            refine e_step (pc' := 123) hK rfl rfl rfl ?_
            refine e_icmp (t := 130) (pc' := 126) hK rfl (by first | omega | exact bo_i _ | (have q1 := glv_b hB; omega) | (have q1 := cal_b hB; omega) | (have q1 := gt_b hB ((cmd.tmod 1000).tdiv 10); omega)) (by first | omega | exact bo_i _ | (have q1 := glv_b hB; omega) | (have q1 := cal_b hB; omega) | (have q1 := gt_b hB ((cmd.tmod 1000).tdiv 10); omega)) (by decide) rfl (fun hb123 => ?_) (fun hb123 => ?_)
            · replace hb123 := cq_eq.1.mp hb123
              try simp only [bo_0, Bool.not_eq_false] at hb123
              refine e_step (pc' := 131) hK rfl rfl rfl ?_
              refine e_ret hK rfl rfl (by first | rfl | (simp only [mv_ret]; rw [if_pos]; exact Or.inr ⟨rfl, by omega⟩) | (simp only [mv_ret]; rw [if_pos]; exact Or.inr ⟨rfl, by unfold mv_bo; split <;> first | exact Or.inl rfl | exact Or.inr rfl⟩)) ?_
              have eg : gcm A (cmd.tdiv 1000) (cmd.tmod 1000) = (decide (glv A ≠ -9999), gle A) := by { unfold gcm; rw [if_neg (by omega)]; rw [if_neg (by omega)]; rw [if_pos (by omega)]; rw [if_pos hb113] }
              rw [eg]
              exact ⟨by { show _ = (0, mv_bo (decide (glv A ≠ -9999))); rw [decide_eq_false (fun q => q hb123)]; rfl }, rfl, hs2, hw.kp2 hf2 s1 s2 hd, fun b hb => hf2 b hb.1⟩
            · replace hb123 := cq_eq.2.mp hb123
              try simp only [bo_0, Bool.not_eq_false] at hb123
              refine e_step (pc' := 127) hK rfl rfl rfl ?_
              refine e_goto (t := 131) hK rfl (by decide) ?_
              refine e_ret hK rfl rfl (by first | rfl | (simp only [mv_ret]; rw [if_pos]; exact Or.inr ⟨rfl, by omega⟩) | (simp only [mv_ret]; rw [if_pos]; exact Or.inr ⟨rfl, by unfold mv_bo; split <;> first | exact Or.inl rfl | exact Or.inr rfl⟩)) ?_
              have eg : gcm A (cmd.tdiv 1000) (cmd.tmod 1000) = (decide (glv A ≠ -9999), gle A) := by { unfold gcm; rw [if_neg (by omega)]; rw [if_neg (by omega)]; rw [if_pos (by omega)]; rw [if_pos hb113] }
              rw [eg]
              exact ⟨by { show _ = (0, mv_bo (decide (glv A ≠ -9999))); rw [decide_eq_true hb123]; rfl }, rfl, hs2, hw.kp2 hf2 s1 s2 hd, fun b hb => hf2 b hb.1⟩
        · skip
          rcases j with _ | j
          · show mv_Ev _ _ 132 _ _ _ _ _
            refine e_step (pc' := 133) hK rfl rfl rfl ?_
            refine e_if (t := 140) (pc' := 136) hK rfl (by first | omega | exact bo_i _ | (have q1 := glv_b hB; omega) | (have q1 := cal_b hB; omega) | (have q1 := gt_b hB ((cmd.tmod 1000).tdiv 10); omega)) (by decide) rfl (fun hb133 => ?_) (fun hb133 => ?_)
            · replace hb133 := cq_ne.1.mp hb133
              try simp only [bo_0, Bool.not_eq_false] at hb133
              refine e_step (pc' := 141) hK rfl rfl rfl ?_
              refine e_if (t := 148) (pc' := 144) hK rfl (by first | omega | exact bo_i _ | (have q1 := glv_b hB; omega) | (have q1 := cal_b hB; omega) | (have q1 := gt_b hB ((cmd.tmod 1000).tdiv 10); omega)) (by decide) rfl (fun hb141 => ?_) (fun hb141 => ?_)
              · replace hb141 := cq_ne.1.mp hb141
                try simp only [bo_0, Bool.not_eq_false] at hb141
                refine e_step (pc' := 149) hK rfl rfl rfl ?_
                refine e_ret hK rfl rfl (by first | rfl | (simp only [mv_ret]; rw [if_pos]; exact Or.inr ⟨rfl, by omega⟩) | (simp only [mv_ret]; rw [if_pos]; exact Or.inr ⟨rfl, by unfold mv_bo; split <;> first | exact Or.inl rfl | exact Or.inr rfl⟩)) ?_
                have eg : gcm A (cmd.tdiv 1000) (cmd.tmod 1000) = (false, A) := by { unfold gcm; rw [if_neg (by omega)]; rw [if_neg (by omega)]; rw [if_neg (by omega)]; rw [if_pos (by omega)]; rw [if_neg hb133] }
                rw [eg]
                exact ⟨rfl, rfl, hs0, hw, fun b _ => rfl⟩
              · replace hb141 := cq_ne.2.mp hb141
                try simp only [bo_0, Bool.not_eq_false] at hb141
                exfalso; first | omega | exact absurd trivial (by assumption) | (first | omega | exact bo_i _ | (have q1 := glv_b hB; omega) | (have q1 := cal_b hB; omega) | (have q1 := gt_b hB ((cmd.tmod 1000).tdiv 10); omega))
            · replace hb133 := cq_ne.2.mp hb133
              try simp only [bo_0, Bool.not_eq_false] at hb133
              refine e_step (pc' := 137) hK rfl rfl rfl ?_
              refine e_cQS1 (z := 100) hK rfl rfl rfl (Nat.le_of_ble_eq_true rfl) (Nat.le_of_ble_eq_true rfl) (c_learnAll hs0) ?_
              rintro _ _ h2 ⟨rfl, rfl, hs2, hf2⟩
              refine ⟨by decide, ?_⟩
              rw [if_pos rfl]
              show mv_Ev _ _ 140 _ _ _ _ _
              refine e_step (pc' := 141) hK rfl rfl rfl ?_
              refine e_if (t := 148) (pc' := 144) hK rfl (by first | omega | exact bo_i _ | (have q1 := glv_b hB; omega) | (have q1 := cal_b hB; omega) | (have q1 := gt_b hB ((cmd.tmod 1000).tdiv 10); omega)) (by decide) rfl (fun hb141 => ?_) (fun hb141 => ?_)
              · replace hb141 := cq_ne.1.mp hb141
                try simp only [bo_0, Bool.not_eq_false] at hb141
                exfalso; first | omega | exact absurd trivial (by assumption) | (first | omega | exact bo_i _ | (have q1 := glv_b hB; omega) | (have q1 := cal_b hB; omega) | (have q1 := gt_b hB ((cmd.tmod 1000).tdiv 10); omega))
              · replace hb141 := cq_ne.2.mp hb141
                try simp only [bo_0, Bool.not_eq_false] at hb141
                refine e_step (pc' := 145) hK rfl rfl rfl ?_
                refine e_goto (t := 149) hK rfl (by decide) ?_
                refine e_ret hK rfl rfl (by first | rfl | (simp only [mv_ret]; rw [if_pos]; exact Or.inr ⟨rfl, by omega⟩) | (simp only [mv_ret]; rw [if_pos]; exact Or.inr ⟨rfl, by unfold mv_bo; split <;> first | exact Or.inl rfl | exact Or.inr rfl⟩)) ?_
                have eg : gcm A (cmd.tdiv 1000) (cmd.tmod 1000) = (true, gall A 12) := by { unfold gcm; rw [if_neg (by omega)]; rw [if_neg (by omega)]; rw [if_neg (by omega)]; rw [if_pos (by omega)]; rw [if_pos hb133] }
                rw [eg]
                exact ⟨rfl, rfl, hs2, hw.kp2 hf2 s1 s2 hd, fun b hb => hf2 b hb.1⟩
          · skip
            rcases j with _ | j
            · show mv_Ev _ _ 150 _ _ _ _ _
              refine e_step (pc' := 152) hK rfl rfl rfl ?_
              refine e_if (t := 176) (pc' := 155) hK rfl (by first | omega | exact bo_i _ | (have q1 := glv_b hB; omega) | (have q1 := cal_b hB; omega) | (have q1 := gt_b hB ((cmd.tmod 1000).tdiv 10); omega)) (by decide) rfl (fun hb152 => ?_) (fun hb152 => ?_)
              · replace hb152 := cq_ne.1.mp hb152
                try simp only [bo_0, Bool.not_eq_false] at hb152
                refine e_step (pc' := 177) hK rfl rfl rfl ?_
                refine e_ret hK rfl rfl (by first | rfl | (simp only [mv_ret]; rw [if_pos]; exact Or.inr ⟨rfl, by omega⟩) | (simp only [mv_ret]; rw [if_pos]; exact Or.inr ⟨rfl, by unfold mv_bo; split <;> first | exact Or.inl rfl | exact Or.inr rfl⟩)) ?_
                have eg : gcm A (cmd.tdiv 1000) (cmd.tmod 1000) = (false, A) := by { unfold gcm; rw [if_neg (by omega)]; rw [if_neg (by omega)]; rw [if_neg (by omega)]; rw [if_neg (by omega)]; rw [if_pos (by omega)]; rw [if_neg hb152] }
                rw [eg]
                exact ⟨rfl, rfl, hs0, hw, fun b _ => rfl⟩
              · replace hb152 := cq_ne.2.mp hb152
                try simp only [bo_0, Bool.not_eq_false] at hb152
                refine e_step (pc' := 156) hK rfl rfl rfl ?_
                refine e_step (pc' := 158) hK rfl rfl rfl ?_
                refine e_step (pc' := 160) hK rfl rfl rfl ?_
                refine e_idiv (pc' := 161) hK rfl (by first | omega | exact bo_i _ | (have q1 := glv_b hB; omega) | (have q1 := cal_b hB; omega) | (have q1 := gt_b hB ((cmd.tmod 1000).tdiv 10); omega)) (by first | omega | exact bo_i _ | (have q1 := glv_b hB; omega) | (have q1 := cal_b hB; omega) | (have q1 := gt_b hB ((cmd.tmod 1000).tdiv 10); omega)) (by first | omega | exact bo_i _ | (have q1 := glv_b hB; omega) | (have q1 := cal_b hB; omega) | (have q1 := gt_b hB ((cmd.tmod 1000).tdiv 10); omega)) rfl ?_
                refine e_step (pc' := 163) hK rfl rfl rfl ?_
                refine e_step (pc' := 165) hK rfl rfl rfl ?_
                refine e_irem (pc' := 166) hK rfl (by first | omega | exact bo_i _ | (have q1 := glv_b hB; omega) | (have q1 := cal_b hB; omega) | (have q1 := gt_b hB ((cmd.tmod 1000).tdiv 10); omega)) (by first | omega | exact bo_i _ | (have q1 := glv_b hB; omega) | (have q1 := cal_b hB; omega) | (have q1 := gt_b hB ((cmd.tmod 1000).tdiv 10); omega)) (by first | omega | exact bo_i _ | (have q1 := glv_b hB; omega) | (have q1 := cal_b hB; omega) | (have q1 := gt_b hB ((cmd.tmod 1000).tdiv 10); omega)) rfl ?_
                refine e_cQS3 (z := 105) hK rfl rfl rfl (Nat.le_of_ble_eq_true rfl) (Nat.le_of_ble_eq_true rfl) (c_opens hs0 (((cmd.tmod 1000).tdiv 10).tdiv 10) (((cmd.tmod 1000).tdiv 10).tmod 10) (by omega) (by omega)) ?_
                rintro _ _ h2 ⟨rfl, rfl, hs2, hf2⟩
                refine ⟨by show (0 : Nat) ≠ 4; decide, ?_⟩
                rw [if_neg (by show ¬ (0 : Nat) = 3; decide)]
                try dsimp only
                show mv_Ev _ _ 169 _ _ _ _ _
                refine e_if (t := 176) (pc' := 172) hK rfl (by first | omega | exact bo_i _ | (have q1 := glv_b hB; omega) | (have q1 := cal_b hB; omega) | (have q1 := gt_b hB ((cmd.tmod 1000).tdiv 10); omega)) (by decide) rfl (fun hb169 => ?_) (fun hb169 => ?_)
                · replace hb169 := cq_eq.1.mp hb169
                  try simp only [bo_0, Bool.not_eq_false] at hb169
                  refine e_step (pc' := 177) hK rfl rfl rfl ?_
                  refine e_ret hK rfl rfl (by first | rfl | (simp only [mv_ret]; rw [if_pos]; exact Or.inr ⟨rfl, by omega⟩) | (simp only [mv_ret]; rw [if_pos]; exact Or.inr ⟨rfl, by unfold mv_bo; split <;> first | exact Or.inl rfl | exact Or.inr rfl⟩)) ?_
                  have eg : gcm A (cmd.tdiv 1000) (cmd.tmod 1000) = gop A (((cmd.tmod 1000).tdiv 10).tdiv 10) (((cmd.tmod 1000).tdiv 10).tmod 10) := by { unfold gcm; rw [if_neg (by omega)]; rw [if_neg (by omega)]; rw [if_neg (by omega)]; rw [if_neg (by omega)]; rw [if_pos (by omega)]; rw [if_pos hb152] }
                  rw [eg]
                  exact ⟨by rw [hb169]; rfl, rfl, hs2, hw.kp2 hf2 s1 s2 hd, fun b hb => hf2 b hb.1⟩
                · replace hb169 := cq_eq.2.mp hb169
                  try simp only [bo_0, Bool.not_eq_false] at hb169
                  refine e_step (pc' := 173) hK rfl rfl rfl ?_
                  refine e_goto (t := 177) hK rfl (by decide) ?_
                  refine e_ret hK rfl rfl (by first | rfl | (simp only [mv_ret]; rw [if_pos]; exact Or.inr ⟨rfl, by omega⟩) | (simp only [mv_ret]; rw [if_pos]; exact Or.inr ⟨rfl, by unfold mv_bo; split <;> first | exact Or.inl rfl | exact Or.inr rfl⟩)) ?_
                  have eg : gcm A (cmd.tdiv 1000) (cmd.tmod 1000) = gop A (((cmd.tmod 1000).tdiv 10).tdiv 10) (((cmd.tmod 1000).tdiv 10).tmod 10) := by { unfold gcm; rw [if_neg (by omega)]; rw [if_neg (by omega)]; rw [if_neg (by omega)]; rw [if_neg (by omega)]; rw [if_pos (by omega)]; rw [if_pos hb152] }
                  rw [eg]
                  exact ⟨by rw [hb169]; rfl, rfl, hs2, hw.kp2 hf2 s1 s2 hd, fun b hb => hf2 b hb.1⟩
            · skip
              rcases j with _ | j
              · show mv_Ev _ _ 178 _ _ _ _ _
                refine e_step (pc' := 179) hK rfl rfl rfl ?_
                refine e_if (t := 190) (pc' := 182) hK rfl (by first | omega | exact bo_i _ | (have q1 := glv_b hB; omega) | (have q1 := cal_b hB; omega) | (have q1 := gt_b hB ((cmd.tmod 1000).tdiv 10); omega)) (by decide) rfl (fun hb179 => ?_) (fun hb179 => ?_)
                · replace hb179 := cq_ne.1.mp hb179
                  try simp only [bo_0, Bool.not_eq_false] at hb179
                  refine e_step (pc' := 191) hK rfl rfl rfl ?_
                  refine e_ret hK rfl rfl (by first | rfl | (simp only [mv_ret]; rw [if_pos]; exact Or.inr ⟨rfl, by omega⟩) | (simp only [mv_ret]; rw [if_pos]; exact Or.inr ⟨rfl, by unfold mv_bo; split <;> first | exact Or.inl rfl | exact Or.inr rfl⟩)) ?_
                  have eg : gcm A (cmd.tdiv 1000) (cmd.tmod 1000) = (false, A) := by { unfold gcm; rw [if_neg (by omega)]; rw [if_neg (by omega)]; rw [if_neg (by omega)]; rw [if_neg (by omega)]; rw [if_neg (by omega)]; rw [if_pos (by omega)]; rw [if_neg (fun q => hb179 q.1)] }
                  rw [eg]
                  exact ⟨rfl, rfl, hs0, hw, fun b _ => rfl⟩
                · replace hb179 := cq_ne.2.mp hb179
                  try simp only [bo_0, Bool.not_eq_false] at hb179
                  refine e_step (pc' := 183) hK rfl rfl rfl ?_
                  refine e_step (pc' := 184) hK rfl rfl rfl ?_
                  refine e_cQV2 (z := 33) hK rfl rfl (by first | (simp (disch := omega) only [t0, f0, f1, f2, f3, f4, t1, l1, t2, l2, t3, l3, t4, l4, fn, fT, gP', u0]; rfl) | (show _ = 2; assumption) | (show _ = 1; assumption) | (show _ = 0; assumption) | (show _ = 3; assumption) | (show _ = 4; assumption)) rfl (Nat.le_of_ble_eq_true rfl) (Nat.le_of_ble_eq_true rfl) (c_takeW hw hs0 (by omega)) ?_
                  rintro _ _ h2 ⟨rfl, rfl, hs2, hf2⟩
                  refine ⟨by show (0 : Nat) ≠ 4; decide, ?_⟩
                  rw [if_neg (by show ¬ (0 : Nat) = 3; decide)]
                  try dsimp only
                  have tgs : (h2 s).1 = 2 := by { rw [hf2 s (by omega)]; exact t0 }
                  show mv_Ev _ _ 187 _ _ _ _ _
                  refine e_if (t := 192) (pc' := 190) hK rfl (by first | omega | exact bo_i _ | (have q1 := glv_b hB; omega) | (have q1 := cal_b hB; omega) | (have q1 := gt_b hB ((cmd.tmod 1000).tdiv 10); omega)) (by decide) rfl (fun hb187 => ?_) (fun hb187 => ?_)
                  · replace hb187 := cq_ne.1.mp hb187
                    try simp only [bo_0, Bool.not_eq_false] at hb187
                    refine e_step (pc' := 193) hK rfl rfl rfl ?_
                    refine e_step (pc' := 194) hK rfl rfl rfl ?_
                    refine e_cQV2 (z := 16) hK rfl rfl (by first | (simp (disch := omega) only [t0, f0, f1, f2, f3, f4, t1, l1, t2, l2, t3, l3, t4, l4, fn, fT, gP', u0]; rfl) | (show _ = 2; assumption) | (show _ = 1; assumption) | (show _ = 0; assumption) | (show _ = 3; assumption) | (show _ = 4; assumption)) rfl (Nat.le_of_ble_eq_true rfl) (Nat.le_of_ble_eq_true rfl) (c_copyFrom (hs0.fr hf2 u1 u2 (by omega)) hs2 hd) ?_
                    rintro _ _ h3 ⟨rfl, rfl, hs3, hf3⟩
                    refine ⟨by decide, ?_⟩
                    rw [if_pos rfl]
                    show mv_Ev _ _ 197 _ _ _ _ _
                    refine e_step (pc' := 198) hK rfl rfl rfl ?_
                    refine e_ret hK rfl rfl (by first | rfl | (simp only [mv_ret]; rw [if_pos]; exact Or.inr ⟨rfl, by omega⟩) | (simp only [mv_ret]; rw [if_pos]; exact Or.inr ⟨rfl, by unfold mv_bo; split <;> first | exact Or.inl rfl | exact Or.inr rfl⟩)) ?_
                    have eg : gcm A (cmd.tdiv 1000) (cmd.tmod 1000) = (true, (gtk A (gn A)).2) := by { unfold gcm; rw [if_neg (by omega)]; rw [if_neg (by omega)]; rw [if_neg (by omega)]; rw [if_neg (by omega)]; rw [if_neg (by omega)]; rw [if_pos (by omega)]; rw [if_pos ⟨hb179, hb187⟩] }
                    rw [eg]
                    exact ⟨rfl, rfl, hs3, hs2.1.kp2 hf3 s1 s2 hd, fun b hb => (hf3 b hb.1).trans (hf2 b hb.2)⟩
                  · replace hb187 := cq_ne.2.mp hb187
                    try simp only [bo_0, Bool.not_eq_false] at hb187
                    refine e_step (pc' := 191) hK rfl rfl rfl ?_
                    refine e_ret hK rfl rfl (by first | rfl | (simp only [mv_ret]; rw [if_pos]; exact Or.inr ⟨rfl, by omega⟩) | (simp only [mv_ret]; rw [if_pos]; exact Or.inr ⟨rfl, by unfold mv_bo; split <;> first | exact Or.inl rfl | exact Or.inr rfl⟩)) ?_
                    have eg : gcm A (cmd.tdiv 1000) (cmd.tmod 1000) = (false, A) := by { unfold gcm; rw [if_neg (by omega)]; rw [if_neg (by omega)]; rw [if_neg (by omega)]; rw [if_neg (by omega)]; rw [if_neg (by omega)]; rw [if_pos (by omega)]; rw [if_neg (fun q => by rw [hb187] at q; cases q.2)] }
                    rw [eg]
                    exact ⟨rfl, rfl, hs0.fr hf2 u1 u2 (by omega), hs2.1, fun b hb => hf2 b hb.2⟩
              · skip
                rcases j with _ | j
                · show mv_Ev _ _ 199 _ _ _ _ _
                  refine e_step (pc' := 200) hK rfl rfl rfl ?_
                  refine e_step (pc' := 202) hK rfl rfl rfl ?_
                  refine e_icmp (t := 217) (pc' := 205) hK rfl (by first | omega | exact bo_i _ | (have q1 := glv_b hB; omega) | (have q1 := cal_b hB; omega) | (have q1 := gt_b hB ((cmd.tmod 1000).tdiv 10); omega)) (by first | omega | exact bo_i _ | (have q1 := glv_b hB; omega) | (have q1 := cal_b hB; omega) | (have q1 := gt_b hB ((cmd.tmod 1000).tdiv 10); omega)) (by decide) rfl (fun hb202 => ?_) (fun hb202 => ?_)
                  · replace hb202 := cq_ge.1.mp hb202
                    try simp only [bo_0, Bool.not_eq_false] at hb202
                    refine e_step (pc' := 218) hK rfl rfl rfl ?_
                    refine e_ret hK rfl rfl (by first | rfl | (simp only [mv_ret]; rw [if_pos]; exact Or.inr ⟨rfl, by omega⟩) | (simp only [mv_ret]; rw [if_pos]; exact Or.inr ⟨rfl, by unfold mv_bo; split <;> first | exact Or.inl rfl | exact Or.inr rfl⟩)) ?_
                    have eg : gcm A (cmd.tdiv 1000) (cmd.tmod 1000) = (decide _, A) := by { unfold gcm; rw [if_neg (by omega)]; rw [if_neg (by omega)]; rw [if_neg (by omega)]; rw [if_neg (by omega)]; rw [if_neg (by omega)]; rw [if_neg (by omega)]; rw [if_pos (by omega)] }
                    rw [eg]
                    refine ⟨?_, rfl, hs0, hw, fun b _ => rfl⟩
                    show _ = (0, mv_bo (decide _))
                    rw [decide_eq_false (by omega)]
                    rfl
                  · replace hb202 := cq_ge.2.mp hb202
                    try simp only [bo_0, Bool.not_eq_false] at hb202
                    refine e_step (pc' := 206) hK rfl rfl rfl ?_
                    refine e_getI (ci := 2) (k := 6) (pc' := 209) hK rfl (by simp (disch := omega) only [t0, f0, f1, f2, f3, f4, t1, l1, t2, l2, t3, l3, t4, l4, fn, fT, gP', u0]) rfl rfl (by decide) (by decide) rfl ?_
                    try simp (disch := omega) only [t0, f0, f1, f2, f3, f4, t1, l1, t2, l2, t3, l3, t4, l4, fn, fT, gP', u0]
                    refine e_step (pc' := 210) hK rfl rfl rfl ?_
                    refine e_icmp (t := 217) (pc' := 213) hK rfl (by first | omega | exact bo_i _ | (have q1 := glv_b hB; omega) | (have q1 := cal_b hB; omega) | (have q1 := gt_b hB ((cmd.tmod 1000).tdiv 10); omega)) (by first | omega | exact bo_i _ | (have q1 := glv_b hB; omega) | (have q1 := cal_b hB; omega) | (have q1 := gt_b hB ((cmd.tmod 1000).tdiv 10); omega)) (by decide) rfl (fun hb210 => ?_) (fun hb210 => ?_)
                    · replace hb210 := cq_gt.1.mp hb210
                      try simp only [bo_0, Bool.not_eq_false] at hb210
                      refine e_step (pc' := 218) hK rfl rfl rfl ?_
                      refine e_ret hK rfl rfl (by first | rfl | (simp only [mv_ret]; rw [if_pos]; exact Or.inr ⟨rfl, by omega⟩) | (simp only [mv_ret]; rw [if_pos]; exact Or.inr ⟨rfl, by unfold mv_bo; split <;> first | exact Or.inl rfl | exact Or.inr rfl⟩)) ?_
                      have eg : gcm A (cmd.tdiv 1000) (cmd.tmod 1000) = (decide _, A) := by { unfold gcm; rw [if_neg (by omega)]; rw [if_neg (by omega)]; rw [if_neg (by omega)]; rw [if_neg (by omega)]; rw [if_neg (by omega)]; rw [if_neg (by omega)]; rw [if_pos (by omega)] }
                      rw [eg]
                      refine ⟨?_, rfl, hs0, hw, fun b _ => rfl⟩
                      show _ = (0, mv_bo (decide _))
                      rw [decide_eq_false (by omega)]
                      rfl
                    · replace hb210 := cq_gt.2.mp hb210
                      try simp only [bo_0, Bool.not_eq_false] at hb210
                      refine e_step (pc' := 214) hK rfl rfl rfl ?_
                      refine e_goto (t := 218) hK rfl (by decide) ?_
                      refine e_ret hK rfl rfl (by first | rfl | (simp only [mv_ret]; rw [if_pos]; exact Or.inr ⟨rfl, by omega⟩) | (simp only [mv_ret]; rw [if_pos]; exact Or.inr ⟨rfl, by unfold mv_bo; split <;> first | exact Or.inl rfl | exact Or.inr rfl⟩)) ?_
                      have eg : gcm A (cmd.tdiv 1000) (cmd.tmod 1000) = (decide _, A) := by { unfold gcm; rw [if_neg (by omega)]; rw [if_neg (by omega)]; rw [if_neg (by omega)]; rw [if_neg (by omega)]; rw [if_neg (by omega)]; rw [if_neg (by omega)]; rw [if_pos (by omega)] }
                      rw [eg]
                      refine ⟨?_, rfl, hs0, hw, fun b _ => rfl⟩
                      show _ = (0, mv_bo (decide _))
                      rw [decide_eq_true (by omega)]
                      rfl
                · skip
                  rcases j with _ | j
                  · show mv_Ev _ _ 219 _ _ _ _ _
                    refine e_step (pc' := 220) hK rfl rfl rfl ?_
                    refine e_cRS1 (z := 80) (pc' := 223) hK rfl rfl rfl (Nat.le_of_ble_eq_true rfl) (Nat.le_of_ble_eq_true rfl) (c_ofAll hs0) (by decide) rfl ?_
                    try simp (disch := omega) only [t0, f0, f1, f2, f3, f4, t1, l1, t2, l2, t3, l3, t4, l4, fn, fT, gP', u0]
                    refine e_step (pc' := 224) hK rfl rfl rfl ?_
                    refine e_icmp (t := 231) (pc' := 227) hK rfl (by first | omega | exact bo_i _ | (have q1 := glv_b hB; omega) | (have q1 := cal_b hB; omega) | (have q1 := gt_b hB ((cmd.tmod 1000).tdiv 10); omega)) (by first | omega | exact bo_i _ | (have q1 := glv_b hB; omega) | (have q1 := cal_b hB; omega) | (have q1 := gt_b hB ((cmd.tmod 1000).tdiv 10); omega)) (by decide) rfl (fun hb224 => ?_) (fun hb224 => ?_)
                    · replace hb224 := cq_gt.1.mp hb224
                      try simp only [bo_0, Bool.not_eq_false] at hb224
                      refine e_step (pc' := 232) hK rfl rfl rfl ?_
                      refine e_ret hK rfl rfl (by first | rfl | (simp only [mv_ret]; rw [if_pos]; exact Or.inr ⟨rfl, by omega⟩) | (simp only [mv_ret]; rw [if_pos]; exact Or.inr ⟨rfl, by unfold mv_bo; split <;> first | exact Or.inl rfl | exact Or.inr rfl⟩)) ?_
                      have eg : gcm A (cmd.tdiv 1000) (cmd.tmod 1000) = (decide _, A) := by { unfold gcm; rw [if_neg (by omega)]; rw [if_neg (by omega)]; rw [if_neg (by omega)]; rw [if_neg (by omega)]; rw [if_neg (by omega)]; rw [if_neg (by omega)]; rw [if_neg (by omega)]; rw [if_pos (by omega)] }
                      rw [eg]
                      refine ⟨?_, rfl, hs0, hw, fun b _ => rfl⟩
                      show _ = (0, mv_bo (decide _))
                      rw [decide_eq_false (by omega)]
                      rfl
                    · replace hb224 := cq_gt.2.mp hb224
                      try simp only [bo_0, Bool.not_eq_false] at hb224
                      refine e_step (pc' := 228) hK rfl rfl rfl ?_
                      refine e_goto (t := 232) hK rfl (by decide) ?_
                      refine e_ret hK rfl rfl (by first | rfl | (simp only [mv_ret]; rw [if_pos]; exact Or.inr ⟨rfl, by omega⟩) | (simp only [mv_ret]; rw [if_pos]; exact Or.inr ⟨rfl, by unfold mv_bo; split <;> first | exact Or.inl rfl | exact Or.inr rfl⟩)) ?_
                      have eg : gcm A (cmd.tdiv 1000) (cmd.tmod 1000) = (decide _, A) := by { unfold gcm; rw [if_neg (by omega)]; rw [if_neg (by omega)]; rw [if_neg (by omega)]; rw [if_neg (by omega)]; rw [if_neg (by omega)]; rw [if_neg (by omega)]; rw [if_neg (by omega)]; rw [if_pos (by omega)] }
                      rw [eg]
                      refine ⟨?_, rfl, hs0, hw, fun b _ => rfl⟩
                      show _ = (0, mv_bo (decide _))
                      rw [decide_eq_true (by omega)]
                      rfl
                  · skip
                    rcases j with _ | j
                    · show mv_Ev _ _ 233 _ _ _ _ _
                      refine e_step (pc' := 234) hK rfl rfl rfl ?_
                      refine e_step (pc' := 236) hK rfl rfl rfl ?_
                      refine e_cRV2 (z := 32) (pc' := 239) hK rfl rfl (by first | (simp (disch := omega) only [t0, f0, f1, f2, f3, f4, t1, l1, t2, l2, t3, l3, t4, l4, fn, fT, gP', u0]; rfl) | (show _ = 2; assumption) | (show _ = 1; assumption) | (show _ = 0; assumption) | (show _ = 3; assumption) | (show _ = 4; assumption)) rfl (Nat.le_of_ble_eq_true rfl) (Nat.le_of_ble_eq_true rfl) (c_hasLine hs0 ((cmd.tmod 1000).tdiv 10) (by omega)) (by decide) rfl ?_
                      try simp (disch := omega) only [t0, f0, f1, f2, f3, f4, t1, l1, t2, l2, t3, l3, t4, l4, fn, fT, gP', u0]
                      refine e_if (t := 257) (pc' := 242) hK rfl (by first | omega | exact bo_i _ | (have q1 := glv_b hB; omega) | (have q1 := cal_b hB; omega) | (have q1 := gt_b hB ((cmd.tmod 1000).tdiv 10); omega)) (by decide) rfl (fun hb239 => ?_) (fun hb239 => ?_)
                      · replace hb239 := cq_eq.1.mp hb239
                        try simp only [bo_0, Bool.not_eq_false] at hb239
                        refine e_step (pc' := 258) hK rfl rfl rfl ?_
                        refine e_ret hK rfl rfl (by first | rfl | (simp only [mv_ret]; rw [if_pos]; exact Or.inr ⟨rfl, by omega⟩) | (simp only [mv_ret]; rw [if_pos]; exact Or.inr ⟨rfl, by unfold mv_bo; split <;> first | exact Or.inl rfl | exact Or.inr rfl⟩)) ?_
                        have eg : gcm A (cmd.tdiv 1000) (cmd.tmod 1000) = (decide _, A) := by { unfold gcm; rw [if_neg (by omega)]; rw [if_neg (by omega)]; rw [if_neg (by omega)]; rw [if_neg (by omega)]; rw [if_neg (by omega)]; rw [if_neg (by omega)]; rw [if_neg (by omega)]; rw [if_neg (by omega)]; rw [if_pos (by omega)] }
                        rw [eg]
                        refine ⟨?_, rfl, hs0, hw, fun b _ => rfl⟩
                        show _ = (0, mv_bo (decide _))
                        rw [decide_eq_false (fun q => by rw [decide_eq_true q.1, decide_eq_true q.2.1] at hb239; cases hb239)]
                        rfl
                      · replace hb239 := cq_eq.2.mp hb239
                        try simp only [bo_0, Bool.not_eq_false] at hb239
                        refine e_step (pc' := 243) hK rfl rfl rfl ?_
                        refine e_step (pc' := 245) hK rfl rfl rfl ?_
                        refine e_cRV2 (z := 27) (pc' := 248) hK rfl rfl (by first | (simp (disch := omega) only [t0, f0, f1, f2, f3, f4, t1, l1, t2, l2, t3, l3, t4, l4, fn, fT, gP', u0]; rfl) | (show _ = 2; assumption) | (show _ = 1; assumption) | (show _ = 0; assumption) | (show _ = 3; assumption) | (show _ = 4; assumption)) rfl (Nat.le_of_ble_eq_true rfl) (Nat.le_of_ble_eq_true rfl) (c_templateAt hs0 ((cmd.tmod 1000).tdiv 10) (by omega)) (by decide) rfl ?_
                        try simp (disch := omega) only [t0, f0, f1, f2, f3, f4, t1, l1, t2, l2, t3, l3, t4, l4, fn, fT, gP', u0]
                        refine e_step (pc' := 250) hK rfl rfl rfl ?_
                        refine e_icmp (t := 257) (pc' := 253) hK rfl (by first | omega | exact bo_i _ | (have q1 := glv_b hB; omega) | (have q1 := cal_b hB; omega) | (have q1 := gt_b hB ((cmd.tmod 1000).tdiv 10); omega)) (by first | omega | exact bo_i _ | (have q1 := glv_b hB; omega) | (have q1 := cal_b hB; omega) | (have q1 := gt_b hB ((cmd.tmod 1000).tdiv 10); omega)) (by decide) rfl (fun hb250 => ?_) (fun hb250 => ?_)
                        · replace hb250 := cq_ne.1.mp hb250
                          try simp only [bo_0, Bool.not_eq_false] at hb250
                          refine e_step (pc' := 258) hK rfl rfl rfl ?_
                          refine e_ret hK rfl rfl (by first | rfl | (simp only [mv_ret]; rw [if_pos]; exact Or.inr ⟨rfl, by omega⟩) | (simp only [mv_ret]; rw [if_pos]; exact Or.inr ⟨rfl, by unfold mv_bo; split <;> first | exact Or.inl rfl | exact Or.inr rfl⟩)) ?_
                          have eg : gcm A (cmd.tdiv 1000) (cmd.tmod 1000) = (decide _, A) := by { unfold gcm; rw [if_neg (by omega)]; rw [if_neg (by omega)]; rw [if_neg (by omega)]; rw [if_neg (by omega)]; rw [if_neg (by omega)]; rw [if_neg (by omega)]; rw [if_neg (by omega)]; rw [if_neg (by omega)]; rw [if_pos (by omega)] }
                          rw [eg]
                          refine ⟨?_, rfl, hs0, hw, fun b _ => rfl⟩
                          show _ = (0, mv_bo (decide _))
                          rw [decide_eq_false (fun q => hb250 q.2.2)]
                          rfl
                        · replace hb250 := cq_ne.2.mp hb250
                          try simp only [bo_0, Bool.not_eq_false] at hb250
                          refine e_step (pc' := 254) hK rfl rfl rfl ?_
                          refine e_goto (t := 258) hK rfl (by decide) ?_
                          refine e_ret hK rfl rfl (by first | rfl | (simp only [mv_ret]; rw [if_pos]; exact Or.inr ⟨rfl, by omega⟩) | (simp only [mv_ret]; rw [if_pos]; exact Or.inr ⟨rfl, by unfold mv_bo; split <;> first | exact Or.inl rfl | exact Or.inr rfl⟩)) ?_
                          have eg : gcm A (cmd.tdiv 1000) (cmd.tmod 1000) = (decide _, A) := by { unfold gcm; rw [if_neg (by omega)]; rw [if_neg (by omega)]; rw [if_neg (by omega)]; rw [if_neg (by omega)]; rw [if_neg (by omega)]; rw [if_neg (by omega)]; rw [if_neg (by omega)]; rw [if_neg (by omega)]; rw [if_pos (by omega)] }
                          rw [eg]
                          refine ⟨?_, rfl, hs0, hw, fun b _ => rfl⟩
                          show _ = (0, mv_bo (decide _))
                          rw [decide_eq_true (by { have q : 0 ≤ (cmd.tmod 1000).tdiv 10 ∧ (cmd.tmod 1000).tdiv 10 < gn A := by { simpa only [Bool.and_eq_true, decide_eq_true_eq] using hb239 }; exact ⟨q.1, q.2, hb250⟩ })]
                          rfl
                    · skip
                      exact absurd hj (by show ¬ _ < 9; omega)
end SC
