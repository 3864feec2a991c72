/-! readers of State (written by wip/whole/m26.py) -/
section ST
variable {sc : Int × (Int → Int)} {c : mv_C} {h : mv_H}
set_option maxRecDepth 10000 in
theorem c_hasLine {s : Int} {A : lg} (hs : StA h s A) (i : Int) (hi : mv_i i) : mv_Cl sc q_State_hasLine [(2, s), (0, i)] c h (mv_Rd (0, mv_bo (decide (0 ≤ i) && decide (i < gn A))) c h) := by
  have hs0 := hs
  obtain ⟨⟨s1, s2, t0, f0, f1, f2, f3, f4, ⟨t1, l1⟩, ⟨t2, l2⟩, ⟨t3, l3⟩, ⟨t4, l4⟩, hl0⟩, hB, fn, fT, gL', gP', gS', gO'⟩ := hs
  have gl' := fun (i : Int) (h0 : 0 ≤ i) (h1 : i < gn A) => (gL' i h0 h1).pos
  have gs' := fun (t : Int) (h0 : 0 ≤ t) (h1 : t < gT A) => (gS' t h0 h1).pos
  have b1 := hB.1
  have b2 := hB.2.1
  show mv_Ev sc 32 0 [(2, s), (0, i)] [] c h _
  have hK : (mv_m 32).1 = kc_State_hasLine := rfl
  refine e_step (pc' := 1) hK rfl rfl rfl ?_
  refine e_if (t := 16) (pc' := 4) hK rfl (by first | omega | (have hx := gl' _ (by assumption) (by assumption); omega) | (have hx := gs' _ (by assumption) (by assumption); omega) | (have hx := hB.2.2.1 _ (by assumption) (by assumption); omega)) (by decide) rfl (fun hb1 => ?_) (fun hb1 => ?_)
  · replace hb1 := cq_lt.1.mp hb1
    refine e_step (pc' := 17) hK rfl rfl rfl ?_
    refine e_ret hK rfl rfl (by first | rfl | (simp only [mv_ret]; rw [if_pos]; exact Or.inr ⟨rfl, by omega⟩)) ?_
    refine ⟨?_, rfl, rfl⟩
    congr 1
    unfold mv_bo
    first | (rw [if_pos (by simp only [Bool.and_eq_true, decide_eq_true_eq]; omega)]; done) | (rw [if_neg (by simp only [Bool.and_eq_true, decide_eq_true_eq]; omega)])
  · replace hb1 := cq_lt.2.mp hb1
    refine e_step (pc' := 5) hK rfl rfl rfl ?_
    refine e_step (pc' := 6) hK rfl rfl rfl ?_
    refine e_getI (ci := 2) (k := 5) (pc' := 9) hK rfl (by simp (disch := omega) only [t0, f0, f1, f2, f3, f4, t1, l1, t2, l2, t3, l3, t4, l4, fn, fT, gP']) rfl rfl (by decide) (by decide) rfl ?_
    try simp (disch := omega) only [t0, f0, f1, f2, f3, f4, t1, l1, t2, l2, t3, l3, t4, l4, fn, fT, gP']
    refine e_icmp (t := 16) (pc' := 12) hK rfl (by first | omega | (have hx := gl' _ (by assumption) (by assumption); omega) | (have hx := gs' _ (by assumption) (by assumption); omega) | (have hx := hB.2.2.1 _ (by assumption) (by assumption); omega)) (by first | omega | (have hx := gl' _ (by assumption) (by assumption); omega) | (have hx := gs' _ (by assumption) (by assumption); omega) | (have hx := hB.2.2.1 _ (by assumption) (by assumption); omega)) (by decide) rfl (fun hb9 => ?_) (fun hb9 => ?_)
    · replace hb9 := cq_ge.1.mp hb9
      refine e_step (pc' := 17) hK rfl rfl rfl ?_
      refine e_ret hK rfl rfl (by first | rfl | (simp only [mv_ret]; rw [if_pos]; exact Or.inr ⟨rfl, by omega⟩)) ?_
      refine ⟨?_, rfl, rfl⟩
      congr 1
      unfold mv_bo
      first | (rw [if_pos (by simp only [Bool.and_eq_true, decide_eq_true_eq]; omega)]; done) | (rw [if_neg (by simp only [Bool.and_eq_true, decide_eq_true_eq]; omega)])
    · replace hb9 := cq_ge.2.mp hb9
      refine e_step (pc' := 13) hK rfl rfl rfl ?_
      refine e_goto (t := 17) hK rfl (by decide) ?_
      refine e_ret hK rfl rfl (by first | rfl | (simp only [mv_ret]; rw [if_pos]; exact Or.inr ⟨rfl, by omega⟩)) ?_
      refine ⟨?_, rfl, rfl⟩
      congr 1
      unfold mv_bo
      first | (rw [if_pos (by simp only [Bool.and_eq_true, decide_eq_true_eq]; omega)]; done) | (rw [if_neg (by simp only [Bool.and_eq_true, decide_eq_true_eq]; omega)])
set_option maxRecDepth 10000 in
theorem c_lineAt {s : Int} {A : lg} (hs : StA h s A) (i : Int) (hi : mv_i i) : mv_Cl sc q_State_lineAt [(2, s), (0, i)] c h (mv_Rd (2, lrf h s A i) c h) := by
  have hs0 := hs
  obtain ⟨⟨s1, s2, t0, f0, f1, f2, f3, f4, ⟨t1, l1⟩, ⟨t2, l2⟩, ⟨t3, l3⟩, ⟨t4, l4⟩, hl0⟩, hB, fn, fT, gL', gP', gS', gO'⟩ := hs
  have gl' := fun (i : Int) (h0 : 0 ≤ i) (h1 : i < gn A) => (gL' i h0 h1).pos
  have gs' := fun (t : Int) (h0 : 0 ≤ t) (h1 : t < gT A) => (gS' t h0 h1).pos
  have b1 := hB.1
  have b2 := hB.2.1
  show mv_Ev sc 26 0 [(2, s), (0, i)] [] c h _
  have hK : (mv_m 26).1 = kc_State_lineAt := rfl
  refine e_step (pc' := 1) hK rfl rfl rfl ?_
  refine e_if (t := 21) (pc' := 4) hK rfl (by first | omega | (have hx := gl' _ (by assumption) (by assumption); omega) | (have hx := gs' _ (by assumption) (by assumption); omega) | (have hx := hB.2.2.1 _ (by assumption) (by assumption); omega)) (by decide) rfl (fun hb1 => ?_) (fun hb1 => ?_)
  · replace hb1 := cq_lt.1.mp hb1
    refine e_step (pc' := 22) hK rfl rfl rfl ?_
    refine e_getR (ci := 2) (k := 0) (pc' := 25) hK rfl (by simp (disch := omega) only [t0, f0, f1, f2, f3, f4, t1, l1, t2, l2, t3, l3, t4, l4, fn, fT, gP']) rfl rfl (by decide) (by decide) (by (try simp (disch := omega) only [t0, f0, f1, f2, f3, f4, t1, l1, t2, l2, t3, l3, t4, l4, fn, fT, gP']); first | omega | (have hx := gl' _ (by assumption) (by assumption); omega) | (have hx := gs' _ (by assumption) (by assumption); omega) | (have hx := hB.2.2.1 _ (by assumption) (by assumption); omega)) rfl ?_
    try simp (disch := omega) only [t0, f0, f1, f2, f3, f4, t1, l1, t2, l2, t3, l3, t4, l4, fn, fT, gP']
    refine e_ret hK rfl rfl rfl ?_
    refine ⟨?_, rfl, rfl⟩
    congr 1
    unfold lrf
    first | (rw [if_pos (by omega)]; done) | (rw [if_neg (by omega)])
  · replace hb1 := cq_lt.2.mp hb1
    refine e_step (pc' := 5) hK rfl rfl rfl ?_
    refine e_step (pc' := 6) hK rfl rfl rfl ?_
    refine e_getI (ci := 2) (k := 5) (pc' := 9) hK rfl (by simp (disch := omega) only [t0, f0, f1, f2, f3, f4, t1, l1, t2, l2, t3, l3, t4, l4, fn, fT, gP']) rfl rfl (by decide) (by decide) rfl ?_
    try simp (disch := omega) only [t0, f0, f1, f2, f3, f4, t1, l1, t2, l2, t3, l3, t4, l4, fn, fT, gP']
    refine e_icmp (t := 21) (pc' := 12) hK rfl (by first | omega | (have hx := gl' _ (by assumption) (by assumption); omega) | (have hx := gs' _ (by assumption) (by assumption); omega) | (have hx := hB.2.2.1 _ (by assumption) (by assumption); omega)) (by first | omega | (have hx := gl' _ (by assumption) (by assumption); omega) | (have hx := gs' _ (by assumption) (by assumption); omega) | (have hx := hB.2.2.1 _ (by assumption) (by assumption); omega)) (by decide) rfl (fun hb9 => ?_) (fun hb9 => ?_)
    · replace hb9 := cq_ge.1.mp hb9
      refine e_step (pc' := 22) hK rfl rfl rfl ?_
      refine e_getR (ci := 2) (k := 0) (pc' := 25) hK rfl (by simp (disch := omega) only [t0, f0, f1, f2, f3, f4, t1, l1, t2, l2, t3, l3, t4, l4, fn, fT, gP']) rfl rfl (by decide) (by decide) (by (try simp (disch := omega) only [t0, f0, f1, f2, f3, f4, t1, l1, t2, l2, t3, l3, t4, l4, fn, fT, gP']); first | omega | (have hx := gl' _ (by assumption) (by assumption); omega) | (have hx := gs' _ (by assumption) (by assumption); omega) | (have hx := hB.2.2.1 _ (by assumption) (by assumption); omega)) rfl ?_
      try simp (disch := omega) only [t0, f0, f1, f2, f3, f4, t1, l1, t2, l2, t3, l3, t4, l4, fn, fT, gP']
      refine e_ret hK rfl rfl rfl ?_
      refine ⟨?_, rfl, rfl⟩
      congr 1
      unfold lrf
      first | (rw [if_pos (by omega)]; done) | (rw [if_neg (by omega)])
    · replace hb9 := cq_ge.2.mp hb9
      refine e_step (pc' := 13) hK rfl rfl rfl ?_
      refine e_getR (ci := 2) (k := 1) (pc' := 16) hK rfl (by simp (disch := omega) only [t0, f0, f1, f2, f3, f4, t1, l1, t2, l2, t3, l3, t4, l4, fn, fT, gP']) rfl rfl (by decide) (by decide) (by (try simp (disch := omega) only [t0, f0, f1, f2, f3, f4, t1, l1, t2, l2, t3, l3, t4, l4, fn, fT, gP']); first | omega | (have hx := gl' _ (by assumption) (by assumption); omega) | (have hx := gs' _ (by assumption) (by assumption); omega) | (have hx := hB.2.2.1 _ (by assumption) (by assumption); omega)) rfl ?_
      try simp (disch := omega) only [t0, f0, f1, f2, f3, f4, t1, l1, t2, l2, t3, l3, t4, l4, fn, fT, gP']
      refine e_step (pc' := 17) hK rfl rfl rfl ?_
      refine e_aald (pc' := 18) hK rfl (by simp (disch := omega) only [t0, f0, f1, f2, f3, f4, t1, l1, t2, l2, t3, l3, t4, l4, fn, fT, gP']; decide) (by first | omega | (have hx := gl' _ (by assumption) (by assumption); omega) | (have hx := gs' _ (by assumption) (by assumption); omega) | (have hx := hB.2.2.1 _ (by assumption) (by assumption); omega)) (by (try simp (disch := omega) only [t0, f0, f1, f2, f3, f4, t1, l1, t2, l2, t3, l3, t4, l4, fn, fT, gP']); first | omega | (have hx := gl' _ (by assumption) (by assumption); omega) | (have hx := gs' _ (by assumption) (by assumption); omega) | (have hx := hB.2.2.1 _ (by assumption) (by assumption); omega)) (by (try simp (disch := omega) only [t0, f0, f1, f2, f3, f4, t1, l1, t2, l2, t3, l3, t4, l4, fn, fT, gP']); first | omega | (have hx := gl' _ (by assumption) (by assumption); omega) | (have hx := gs' _ (by assumption) (by assumption); omega) | (have hx := hB.2.2.1 _ (by assumption) (by assumption); omega)) rfl ?_
      try simp (disch := omega) only [t0, f0, f1, f2, f3, f4, t1, l1, t2, l2, t3, l3, t4, l4, fn, fT, gP']
      refine e_goto (t := 25) hK rfl (by decide) ?_
      refine e_ret hK rfl rfl rfl ?_
      refine ⟨?_, rfl, rfl⟩
      congr 1
      unfold lrf
      first | (rw [if_pos (by omega)]; done) | (rw [if_neg (by omega)])
set_option maxRecDepth 10000 in
theorem c_templateAt {s : Int} {A : lg} (hs : StA h s A) (i : Int) (hi : mv_i i) : mv_Cl sc q_State_templateAt [(2, s), (0, i)] c h (mv_Rd (0, gt A i) c h) := by
  have hs0 := hs
  obtain ⟨⟨s1, s2, t0, f0, f1, f2, f3, f4, ⟨t1, l1⟩, ⟨t2, l2⟩, ⟨t3, l3⟩, ⟨t4, l4⟩, hl0⟩, hB, fn, fT, gL', gP', gS', gO'⟩ := hs
  have gl' := fun (i : Int) (h0 : 0 ≤ i) (h1 : i < gn A) => (gL' i h0 h1).pos
  have gs' := fun (t : Int) (h0 : 0 ≤ t) (h1 : t < gT A) => (gS' t h0 h1).pos
  have b1 := hB.1
  have b2 := hB.2.1
  show mv_Ev sc 27 0 [(2, s), (0, i)] [] c h _
  have hK : (mv_m 27).1 = kc_State_templateAt := rfl
  refine e_step (pc' := 1) hK rfl rfl rfl ?_
  refine e_if (t := 21) (pc' := 4) hK rfl (by first | omega | (have hx := gl' _ (by assumption) (by assumption); omega) | (have hx := gs' _ (by assumption) (by assumption); omega) | (have hx := hB.2.2.1 _ (by assumption) (by assumption); omega)) (by decide) rfl (fun hb1 => ?_) (fun hb1 => ?_)
  · replace hb1 := cq_lt.1.mp hb1
    refine e_step (pc' := 24) hK rfl rfl rfl ?_
    refine e_ret hK rfl rfl rfl ?_
    refine ⟨?_, rfl, rfl⟩
    congr 1
    unfold gt
    first | (rw [if_pos (by omega)]; done) | (rw [if_neg (by omega)])
  · replace hb1 := cq_lt.2.mp hb1
    refine e_step (pc' := 5) hK rfl rfl rfl ?_
    refine e_step (pc' := 6) hK rfl rfl rfl ?_
    refine e_getI (ci := 2) (k := 5) (pc' := 9) hK rfl (by simp (disch := omega) only [t0, f0, f1, f2, f3, f4, t1, l1, t2, l2, t3, l3, t4, l4, fn, fT, gP']) rfl rfl (by decide) (by decide) rfl ?_
    try simp (disch := omega) only [t0, f0, f1, f2, f3, f4, t1, l1, t2, l2, t3, l3, t4, l4, fn, fT, gP']
    refine e_icmp (t := 21) (pc' := 12) hK rfl (by first | omega | (have hx := gl' _ (by assumption) (by assumption); omega) | (have hx := gs' _ (by assumption) (by assumption); omega) | (have hx := hB.2.2.1 _ (by assumption) (by assumption); omega)) (by first | omega | (have hx := gl' _ (by assumption) (by assumption); omega) | (have hx := gs' _ (by assumption) (by assumption); omega) | (have hx := hB.2.2.1 _ (by assumption) (by assumption); omega)) (by decide) rfl (fun hb9 => ?_) (fun hb9 => ?_)
    · replace hb9 := cq_ge.1.mp hb9
      refine e_step (pc' := 24) hK rfl rfl rfl ?_
      refine e_ret hK rfl rfl rfl ?_
      refine ⟨?_, rfl, rfl⟩
      congr 1
      unfold gt
      first | (rw [if_pos (by omega)]; done) | (rw [if_neg (by omega)])
    · replace hb9 := cq_ge.2.mp hb9
      refine e_step (pc' := 13) hK rfl rfl rfl ?_
      refine e_getR (ci := 2) (k := 2) (pc' := 16) hK rfl (by simp (disch := omega) only [t0, f0, f1, f2, f3, f4, t1, l1, t2, l2, t3, l3, t4, l4, fn, fT, gP']) rfl rfl (by decide) (by decide) (by (try simp (disch := omega) only [t0, f0, f1, f2, f3, f4, t1, l1, t2, l2, t3, l3, t4, l4, fn, fT, gP']); first | omega | (have hx := gl' _ (by assumption) (by assumption); omega) | (have hx := gs' _ (by assumption) (by assumption); omega) | (have hx := hB.2.2.1 _ (by assumption) (by assumption); omega)) rfl ?_
      try simp (disch := omega) only [t0, f0, f1, f2, f3, f4, t1, l1, t2, l2, t3, l3, t4, l4, fn, fT, gP']
      refine e_step (pc' := 17) hK rfl rfl rfl ?_
      refine e_iald (pc' := 18) hK rfl (by simp (disch := omega) only [t0, f0, f1, f2, f3, f4, t1, l1, t2, l2, t3, l3, t4, l4, fn, fT, gP']) (by first | omega | (have hx := gl' _ (by assumption) (by assumption); omega) | (have hx := gs' _ (by assumption) (by assumption); omega) | (have hx := hB.2.2.1 _ (by assumption) (by assumption); omega)) (by (try simp (disch := omega) only [t0, f0, f1, f2, f3, f4, t1, l1, t2, l2, t3, l3, t4, l4, fn, fT, gP']); first | omega | (have hx := gl' _ (by assumption) (by assumption); omega) | (have hx := gs' _ (by assumption) (by assumption); omega) | (have hx := hB.2.2.1 _ (by assumption) (by assumption); omega)) rfl ?_
      try simp (disch := omega) only [t0, f0, f1, f2, f3, f4, t1, l1, t2, l2, t3, l3, t4, l4, fn, fT, gP']
      refine e_goto (t := 24) hK rfl (by decide) ?_
      refine e_ret hK rfl rfl rfl ?_
      refine ⟨?_, rfl, rfl⟩
      congr 1
      unfold gt
      first | (rw [if_pos (by omega)]; done) | (rw [if_neg (by omega)])
set_option maxRecDepth 10000 in
theorem c_sampleAt {s : Int} {A : lg} (hs : StA h s A) (i : Int) (hi : mv_i i) : mv_Cl sc q_State_sampleAt [(2, s), (0, i)] c h (mv_Rd (2, srf h s A i) c h) := by
  have hs0 := hs
  obtain ⟨⟨s1, s2, t0, f0, f1, f2, f3, f4, ⟨t1, l1⟩, ⟨t2, l2⟩, ⟨t3, l3⟩, ⟨t4, l4⟩, hl0⟩, hB, fn, fT, gL', gP', gS', gO'⟩ := hs
  have gl' := fun (i : Int) (h0 : 0 ≤ i) (h1 : i < gn A) => (gL' i h0 h1).pos
  have gs' := fun (t : Int) (h0 : 0 ≤ t) (h1 : t < gT A) => (gS' t h0 h1).pos
  have b1 := hB.1
  have b2 := hB.2.1
  show mv_Ev sc 17 0 [(2, s), (0, i)] [] c h _
  have hK : (mv_m 17).1 = kc_State_sampleAt := rfl
  refine e_step (pc' := 1) hK rfl rfl rfl ?_
  refine e_if (t := 21) (pc' := 4) hK rfl (by first | omega | (have hx := gl' _ (by assumption) (by assumption); omega) | (have hx := gs' _ (by assumption) (by assumption); omega) | (have hx := hB.2.2.1 _ (by assumption) (by assumption); omega)) (by decide) rfl (fun hb1 => ?_) (fun hb1 => ?_)
  · replace hb1 := cq_lt.1.mp hb1
    refine e_step (pc' := 22) hK rfl rfl rfl ?_
    refine e_getR (ci := 2) (k := 0) (pc' := 25) hK rfl (by simp (disch := omega) only [t0, f0, f1, f2, f3, f4, t1, l1, t2, l2, t3, l3, t4, l4, fn, fT, gP']) rfl rfl (by decide) (by decide) (by (try simp (disch := omega) only [t0, f0, f1, f2, f3, f4, t1, l1, t2, l2, t3, l3, t4, l4, fn, fT, gP']); first | omega | (have hx := gl' _ (by assumption) (by assumption); omega) | (have hx := gs' _ (by assumption) (by assumption); omega) | (have hx := hB.2.2.1 _ (by assumption) (by assumption); omega)) rfl ?_
    try simp (disch := omega) only [t0, f0, f1, f2, f3, f4, t1, l1, t2, l2, t3, l3, t4, l4, fn, fT, gP']
    refine e_ret hK rfl rfl rfl ?_
    refine ⟨?_, rfl, rfl⟩
    congr 1
    unfold srf
    first | (rw [if_pos (by omega)]; done) | (rw [if_neg (by omega)])
  · replace hb1 := cq_lt.2.mp hb1
    refine e_step (pc' := 5) hK rfl rfl rfl ?_
    refine e_step (pc' := 6) hK rfl rfl rfl ?_
    refine e_getI (ci := 2) (k := 6) (pc' := 9) hK rfl (by simp (disch := omega) only [t0, f0, f1, f2, f3, f4, t1, l1, t2, l2, t3, l3, t4, l4, fn, fT, gP']) rfl rfl (by decide) (by decide) rfl ?_
    try simp (disch := omega) only [t0, f0, f1, f2, f3, f4, t1, l1, t2, l2, t3, l3, t4, l4, fn, fT, gP']
    refine e_icmp (t := 21) (pc' := 12) hK rfl (by first | omega | (have hx := gl' _ (by assumption) (by assumption); omega) | (have hx := gs' _ (by assumption) (by assumption); omega) | (have hx := hB.2.2.1 _ (by assumption) (by assumption); omega)) (by first | omega | (have hx := gl' _ (by assumption) (by assumption); omega) | (have hx := gs' _ (by assumption) (by assumption); omega) | (have hx := hB.2.2.1 _ (by assumption) (by assumption); omega)) (by decide) rfl (fun hb9 => ?_) (fun hb9 => ?_)
    · replace hb9 := cq_ge.1.mp hb9
      refine e_step (pc' := 22) hK rfl rfl rfl ?_
      refine e_getR (ci := 2) (k := 0) (pc' := 25) hK rfl (by simp (disch := omega) only [t0, f0, f1, f2, f3, f4, t1, l1, t2, l2, t3, l3, t4, l4, fn, fT, gP']) rfl rfl (by decide) (by decide) (by (try simp (disch := omega) only [t0, f0, f1, f2, f3, f4, t1, l1, t2, l2, t3, l3, t4, l4, fn, fT, gP']); first | omega | (have hx := gl' _ (by assumption) (by assumption); omega) | (have hx := gs' _ (by assumption) (by assumption); omega) | (have hx := hB.2.2.1 _ (by assumption) (by assumption); omega)) rfl ?_
      try simp (disch := omega) only [t0, f0, f1, f2, f3, f4, t1, l1, t2, l2, t3, l3, t4, l4, fn, fT, gP']
      refine e_ret hK rfl rfl rfl ?_
      refine ⟨?_, rfl, rfl⟩
      congr 1
      unfold srf
      first | (rw [if_pos (by omega)]; done) | (rw [if_neg (by omega)])
    · replace hb9 := cq_ge.2.mp hb9
      refine e_step (pc' := 13) hK rfl rfl rfl ?_
      refine e_getR (ci := 2) (k := 3) (pc' := 16) hK rfl (by simp (disch := omega) only [t0, f0, f1, f2, f3, f4, t1, l1, t2, l2, t3, l3, t4, l4, fn, fT, gP']) rfl rfl (by decide) (by decide) (by (try simp (disch := omega) only [t0, f0, f1, f2, f3, f4, t1, l1, t2, l2, t3, l3, t4, l4, fn, fT, gP']); first | omega | (have hx := gl' _ (by assumption) (by assumption); omega) | (have hx := gs' _ (by assumption) (by assumption); omega) | (have hx := hB.2.2.1 _ (by assumption) (by assumption); omega)) rfl ?_
      try simp (disch := omega) only [t0, f0, f1, f2, f3, f4, t1, l1, t2, l2, t3, l3, t4, l4, fn, fT, gP']
      refine e_step (pc' := 17) hK rfl rfl rfl ?_
      refine e_aald (pc' := 18) hK rfl (by simp (disch := omega) only [t0, f0, f1, f2, f3, f4, t1, l1, t2, l2, t3, l3, t4, l4, fn, fT, gP']; decide) (by first | omega | (have hx := gl' _ (by assumption) (by assumption); omega) | (have hx := gs' _ (by assumption) (by assumption); omega) | (have hx := hB.2.2.1 _ (by assumption) (by assumption); omega)) (by (try simp (disch := omega) only [t0, f0, f1, f2, f3, f4, t1, l1, t2, l2, t3, l3, t4, l4, fn, fT, gP']); first | omega | (have hx := gl' _ (by assumption) (by assumption); omega) | (have hx := gs' _ (by assumption) (by assumption); omega) | (have hx := hB.2.2.1 _ (by assumption) (by assumption); omega)) (by (try simp (disch := omega) only [t0, f0, f1, f2, f3, f4, t1, l1, t2, l2, t3, l3, t4, l4, fn, fT, gP']); first | omega | (have hx := gl' _ (by assumption) (by assumption); omega) | (have hx := gs' _ (by assumption) (by assumption); omega) | (have hx := hB.2.2.1 _ (by assumption) (by assumption); omega)) rfl ?_
      try simp (disch := omega) only [t0, f0, f1, f2, f3, f4, t1, l1, t2, l2, t3, l3, t4, l4, fn, fT, gP']
      refine e_goto (t := 25) hK rfl (by decide) ?_
      refine e_ret hK rfl rfl rfl ?_
      refine ⟨?_, rfl, rfl⟩
      congr 1
      unfold srf
      first | (rw [if_pos (by omega)]; done) | (rw [if_neg (by omega)])
set_option maxRecDepth 10000 in
theorem c_isOpen {s : Int} {A : lg} (hs : StA h s A) (t q : Int) (ht : mv_i t) (hq : mv_i q) : mv_Cl sc q_State_isOpen [(2, s), (0, t), (0, q)] c h (mv_Rd (0, mv_bo (go A t q)) c h) := by
  have hs0 := hs
  obtain ⟨⟨s1, s2, t0, f0, f1, f2, f3, f4, ⟨t1, l1⟩, ⟨t2, l2⟩, ⟨t3, l3⟩, ⟨t4, l4⟩, hl0⟩, hB, fn, fT, gL', gP', gS', gO'⟩ := hs
  have gl' := fun (i : Int) (h0 : 0 ≤ i) (h1 : i < gn A) => (gL' i h0 h1).pos
  have gs' := fun (t : Int) (h0 : 0 ≤ t) (h1 : t < gT A) => (gS' t h0 h1).pos
  have b1 := hB.1
  have b2 := hB.2.1
  show mv_Ev sc 19 0 [(2, s), (0, t), (0, q)] [] c h _
  have hK : (mv_m 19).1 = kc_State_isOpen := rfl
  refine e_step (pc' := 1) hK rfl rfl rfl ?_
  refine e_if (t := 39) (pc' := 4) hK rfl (by first | omega | (obtain ⟨o1, o2, o3⟩ := gO' t (by assumption) (by assumption); first | omega | (generalize (h (s + 4)).2.2 t / 2 ^ q.toNat = w; omega))) (by decide) rfl (fun hb1 => ?_) (fun hb1 => ?_)
  · replace hb1 := cq_lt.1.mp hb1
    refine e_step (pc' := 40) hK rfl rfl rfl ?_
    refine e_ret hK rfl rfl (by first | rfl | (simp only [mv_ret]; rw [if_pos]; exact Or.inr ⟨rfl, by omega⟩)) ?_
    refine ⟨?_, rfl, rfl⟩
    congr 1
    unfold go mv_bo
    first | (rw [if_neg (by simp only [Bool.and_eq_true, decide_eq_true_eq]; omega)]; done) | (have o3 := (gO' t (by assumption) (by assumption)).2.2 q (by assumption) (by assumption); first | (rw [if_neg (by rw [o3.mp hb32, Bool.and_false]; decide)]; done) | (have o4 : gO A t q = true := by { cases ho : gO A t q with | true => rfl | false => exact absurd (o3.mpr ho) hb32 }; rw [o4, decide_eq_true (show 0 ≤ t by assumption), decide_eq_true (show t < gT A by assumption), decide_eq_true (show 0 ≤ q by assumption), decide_eq_true (show q < 12 by assumption)]; rfl))
  · replace hb1 := cq_lt.2.mp hb1
    refine e_step (pc' := 5) hK rfl rfl rfl ?_
    refine e_step (pc' := 6) hK rfl rfl rfl ?_
    refine e_getI (ci := 2) (k := 6) (pc' := 9) hK rfl (by simp (disch := omega) only [t0, f0, f1, f2, f3, f4, t1, l1, t2, l2, t3, l3, t4, l4, fn, fT, gP']) rfl rfl (by decide) (by decide) rfl ?_
    try simp (disch := omega) only [t0, f0, f1, f2, f3, f4, t1, l1, t2, l2, t3, l3, t4, l4, fn, fT, gP']
    refine e_icmp (t := 39) (pc' := 12) hK rfl (by first | omega | (obtain ⟨o1, o2, o3⟩ := gO' t (by assumption) (by assumption); first | omega | (generalize (h (s + 4)).2.2 t / 2 ^ q.toNat = w; omega))) (by first | omega | (obtain ⟨o1, o2, o3⟩ := gO' t (by assumption) (by assumption); first | omega | (generalize (h (s + 4)).2.2 t / 2 ^ q.toNat = w; omega))) (by decide) rfl (fun hb9 => ?_) (fun hb9 => ?_)
    · replace hb9 := cq_ge.1.mp hb9
      refine e_step (pc' := 40) hK rfl rfl rfl ?_
      refine e_ret hK rfl rfl (by first | rfl | (simp only [mv_ret]; rw [if_pos]; exact Or.inr ⟨rfl, by omega⟩)) ?_
      refine ⟨?_, rfl, rfl⟩
      congr 1
      unfold go mv_bo
      first | (rw [if_neg (by simp only [Bool.and_eq_true, decide_eq_true_eq]; omega)]; done) | (have o3 := (gO' t (by assumption) (by assumption)).2.2 q (by assumption) (by assumption); first | (rw [if_neg (by rw [o3.mp hb32, Bool.and_false]; decide)]; done) | (have o4 : gO A t q = true := by { cases ho : gO A t q with | true => rfl | false => exact absurd (o3.mpr ho) hb32 }; rw [o4, decide_eq_true (show 0 ≤ t by assumption), decide_eq_true (show t < gT A by assumption), decide_eq_true (show 0 ≤ q by assumption), decide_eq_true (show q < 12 by assumption)]; rfl))
    · replace hb9 := cq_ge.2.mp hb9
      refine e_step (pc' := 13) hK rfl rfl rfl ?_
      refine e_if (t := 39) (pc' := 16) hK rfl (by first | omega | (obtain ⟨o1, o2, o3⟩ := gO' t (by assumption) (by assumption); first | omega | (generalize (h (s + 4)).2.2 t / 2 ^ q.toNat = w; omega))) (by decide) rfl (fun hb13 => ?_) (fun hb13 => ?_)
      · replace hb13 := cq_lt.1.mp hb13
        refine e_step (pc' := 40) hK rfl rfl rfl ?_
        refine e_ret hK rfl rfl (by first | rfl | (simp only [mv_ret]; rw [if_pos]; exact Or.inr ⟨rfl, by omega⟩)) ?_
        refine ⟨?_, rfl, rfl⟩
        congr 1
        unfold go mv_bo
        first | (rw [if_neg (by simp only [Bool.and_eq_true, decide_eq_true_eq]; omega)]; done) | (have o3 := (gO' t (by assumption) (by assumption)).2.2 q (by assumption) (by assumption); first | (rw [if_neg (by rw [o3.mp hb32, Bool.and_false]; decide)]; done) | (have o4 : gO A t q = true := by { cases ho : gO A t q with | true => rfl | false => exact absurd (o3.mpr ho) hb32 }; rw [o4, decide_eq_true (show 0 ≤ t by assumption), decide_eq_true (show t < gT A by assumption), decide_eq_true (show 0 ≤ q by assumption), decide_eq_true (show q < 12 by assumption)]; rfl))
      · replace hb13 := cq_lt.2.mp hb13
        refine e_step (pc' := 17) hK rfl rfl rfl ?_
        refine e_step (pc' := 19) hK rfl rfl rfl ?_
        refine e_icmp (t := 39) (pc' := 22) hK rfl (by first | omega | (obtain ⟨o1, o2, o3⟩ := gO' t (by assumption) (by assumption); first | omega | (generalize (h (s + 4)).2.2 t / 2 ^ q.toNat = w; omega))) (by first | omega | (obtain ⟨o1, o2, o3⟩ := gO' t (by assumption) (by assumption); first | omega | (generalize (h (s + 4)).2.2 t / 2 ^ q.toNat = w; omega))) (by decide) rfl (fun hb19 => ?_) (fun hb19 => ?_)
        · replace hb19 := cq_ge.1.mp hb19
          refine e_step (pc' := 40) hK rfl rfl rfl ?_
          refine e_ret hK rfl rfl (by first | rfl | (simp only [mv_ret]; rw [if_pos]; exact Or.inr ⟨rfl, by omega⟩)) ?_
          refine ⟨?_, rfl, rfl⟩
          congr 1
          unfold go mv_bo
          first | (rw [if_neg (by simp only [Bool.and_eq_true, decide_eq_true_eq]; omega)]; done) | (have o3 := (gO' t (by assumption) (by assumption)).2.2 q (by assumption) (by assumption); first | (rw [if_neg (by rw [o3.mp hb32, Bool.and_false]; decide)]; done) | (have o4 : gO A t q = true := by { cases ho : gO A t q with | true => rfl | false => exact absurd (o3.mpr ho) hb32 }; rw [o4, decide_eq_true (show 0 ≤ t by assumption), decide_eq_true (show t < gT A by assumption), decide_eq_true (show 0 ≤ q by assumption), decide_eq_true (show q < 12 by assumption)]; rfl))
        · replace hb19 := cq_ge.2.mp hb19
          refine e_step (pc' := 23) hK rfl rfl rfl ?_
          refine e_getR (ci := 2) (k := 4) (pc' := 26) hK rfl (by simp (disch := omega) only [t0, f0, f1, f2, f3, f4, t1, l1, t2, l2, t3, l3, t4, l4, fn, fT, gP']) rfl rfl (by decide) (by decide) (by (try simp (disch := omega) only [t0, f0, f1, f2, f3, f4, t1, l1, t2, l2, t3, l3, t4, l4, fn, fT, gP']); first | omega | (obtain ⟨o1, o2, o3⟩ := gO' t (by assumption) (by assumption); first | omega | (generalize (h (s + 4)).2.2 t / 2 ^ q.toNat = w; omega))) rfl ?_
          try simp (disch := omega) only [t0, f0, f1, f2, f3, f4, t1, l1, t2, l2, t3, l3, t4, l4, fn, fT, gP']
          refine e_step (pc' := 27) hK rfl rfl rfl ?_
          refine e_iald (pc' := 28) hK rfl (by simp (disch := omega) only [t0, f0, f1, f2, f3, f4, t1, l1, t2, l2, t3, l3, t4, l4, fn, fT, gP']) (by first | omega | (obtain ⟨o1, o2, o3⟩ := gO' t (by assumption) (by assumption); first | omega | (generalize (h (s + 4)).2.2 t / 2 ^ q.toNat = w; omega))) (by (try simp (disch := omega) only [t0, f0, f1, f2, f3, f4, t1, l1, t2, l2, t3, l3, t4, l4, fn, fT, gP']); first | omega | (obtain ⟨o1, o2, o3⟩ := gO' t (by assumption) (by assumption); first | omega | (generalize (h (s + 4)).2.2 t / 2 ^ q.toNat = w; omega))) rfl ?_
          try simp (disch := omega) only [t0, f0, f1, f2, f3, f4, t1, l1, t2, l2, t3, l3, t4, l4, fn, fT, gP']
          refine e_step (pc' := 29) hK rfl rfl rfl ?_
          refine e_ishr (pc' := 30) hK rfl (by first | omega | (obtain ⟨o1, o2, o3⟩ := gO' t (by assumption) (by assumption); first | omega | (generalize (h (s + 4)).2.2 t / 2 ^ q.toNat = w; omega))) (by first | omega | (obtain ⟨o1, o2, o3⟩ := gO' t (by assumption) (by assumption); first | omega | (generalize (h (s + 4)).2.2 t / 2 ^ q.toNat = w; omega))) (by first | omega | (obtain ⟨o1, o2, o3⟩ := gO' t (by assumption) (by assumption); first | omega | (generalize (h (s + 4)).2.2 t / 2 ^ q.toNat = w; omega))) rfl ?_
          refine e_step (pc' := 31) hK rfl rfl rfl ?_
          refine e_iand (pc' := 32) hK rfl (by first | omega | (obtain ⟨o1, o2, o3⟩ := gO' t (by assumption) (by assumption); first | omega | (generalize (h (s + 4)).2.2 t / 2 ^ q.toNat = w; omega))) rfl ?_
          refine e_if (t := 39) (pc' := 35) hK rfl (by first | omega | (obtain ⟨o1, o2, o3⟩ := gO' t (by assumption) (by assumption); first | omega | (generalize (h (s + 4)).2.2 t / 2 ^ q.toNat = w; omega))) (by decide) rfl (fun hb32 => ?_) (fun hb32 => ?_)
          · replace hb32 := cq_eq.1.mp hb32
            refine e_step (pc' := 40) hK rfl rfl rfl ?_
            refine e_ret hK rfl rfl (by first | rfl | (simp only [mv_ret]; rw [if_pos]; exact Or.inr ⟨rfl, by omega⟩)) ?_
            refine ⟨?_, rfl, rfl⟩
            congr 1
            unfold go mv_bo
            first | (rw [if_neg (by simp only [Bool.and_eq_true, decide_eq_true_eq]; omega)]; done) | (have o3 := (gO' t (by assumption) (by assumption)).2.2 q (by assumption) (by assumption); first | (rw [if_neg (by rw [o3.mp hb32, Bool.and_false]; decide)]; done) | (have o4 : gO A t q = true := by { cases ho : gO A t q with | true => rfl | false => exact absurd (o3.mpr ho) hb32 }; rw [o4, decide_eq_true (show 0 ≤ t by assumption), decide_eq_true (show t < gT A by assumption), decide_eq_true (show 0 ≤ q by assumption), decide_eq_true (show q < 12 by assumption)]; rfl))
          · replace hb32 := cq_eq.2.mp hb32
            refine e_step (pc' := 36) hK rfl rfl rfl ?_
            refine e_goto (t := 40) hK rfl (by decide) ?_
            refine e_ret hK rfl rfl (by first | rfl | (simp only [mv_ret]; rw [if_pos]; exact Or.inr ⟨rfl, by omega⟩)) ?_
            refine ⟨?_, rfl, rfl⟩
            congr 1
            unfold go mv_bo
            first | (rw [if_neg (by simp only [Bool.and_eq_true, decide_eq_true_eq]; omega)]; done) | (have o3 := (gO' t (by assumption) (by assumption)).2.2 q (by assumption) (by assumption); first | (rw [if_neg (by rw [o3.mp hb32, Bool.and_false]; decide)]; done) | (have o4 : gO A t q = true := by { cases ho : gO A t q with | true => rfl | false => exact absurd (o3.mpr ho) hb32 }; rw [o4, decide_eq_true (show 0 ≤ t by assumption), decide_eq_true (show t < gT A by assumption), decide_eq_true (show 0 ≤ q by assumption), decide_eq_true (show q < 12 by assumption)]; rfl))
set_option maxRecDepth 10000 in
theorem c_kindIn {s : Int} {A : lg} (hs : StA h s A) (t q : Int) (ht : mv_i t) (hq : mv_i q) : mv_Cl sc q_State_kindIn [(2, s), (0, t), (0, q)] c h (mv_Rd (0, gk A t q) c h) := by
  have hs0 := hs
  obtain ⟨⟨s1, s2, t0, f0, f1, f2, f3, f4, ⟨t1, l1⟩, ⟨t2, l2⟩, ⟨t3, l3⟩, ⟨t4, l4⟩, hl0⟩, hB, fn, fT, gL', gP', gS', gO'⟩ := hs
  have gl' := fun (i : Int) (h0 : 0 ≤ i) (h1 : i < gn A) => (gL' i h0 h1).pos
  have gs' := fun (t : Int) (h0 : 0 ≤ t) (h1 : t < gT A) => (gS' t h0 h1).pos
  have b1 := hB.1
  have b2 := hB.2.1
  have tg := (hs0.sr t).tag
  show mv_Ev sc 18 0 [(2, s), (0, t), (0, q)] [] c h _
  have hK : (mv_m 18).1 = kc_State_kindIn := rfl
  refine e_step (pc' := 1) hK rfl rfl rfl ?_
  refine e_step (pc' := 2) hK rfl rfl rfl ?_
  refine e_step (pc' := 3) hK rfl rfl rfl ?_
  refine e_cRV3 (z := 19) (pc' := 6) hK rfl rfl (by simp (disch := omega) only [t0, f0, f1, f2, f3, f4, t1, l1, t2, l2, t3, l3, t4, l4, fn, fT, gP', tg]; rfl) rfl (Nat.le_of_ble_eq_true rfl) (Nat.le_of_ble_eq_true rfl) (c_isOpen hs0 _ _ ht hq) (by decide) rfl ?_
  try simp (disch := omega) only [t0, f0, f1, f2, f3, f4, t1, l1, t2, l2, t3, l3, t4, l4, fn, fT, gP', tg]
  refine e_if (t := 13) (pc' := 9) hK rfl (by first | omega | exact bo_i _) (by decide) rfl (fun hb6 => ?_) (fun hb6 => ?_)
  · replace hb6 := cq_eq.1.mp hb6
    try simp only [bo_0, Bool.not_eq_false] at hb6
    refine e_step (pc' := 14) hK rfl rfl rfl ?_
    refine e_step (pc' := 15) hK rfl rfl rfl ?_
    refine e_cRV2 (z := 17) (pc' := 18) hK rfl rfl (by simp (disch := omega) only [t0, f0, f1, f2, f3, f4, t1, l1, t2, l2, t3, l3, t4, l4, fn, fT, gP', tg]; rfl) rfl (Nat.le_of_ble_eq_true rfl) (Nat.le_of_ble_eq_true rfl) (c_sampleAt hs0 _ ht) (by decide) rfl ?_
    try simp (disch := omega) only [t0, f0, f1, f2, f3, f4, t1, l1, t2, l2, t3, l3, t4, l4, fn, fT, gP', tg]
    refine e_step (pc' := 19) hK rfl rfl rfl ?_
    refine e_cRV2 (z := 8) (pc' := 22) hK rfl rfl (by simp (disch := omega) only [t0, f0, f1, f2, f3, f4, t1, l1, t2, l2, t3, l3, t4, l4, fn, fT, gP', tg]; rfl) rfl (Nat.le_of_ble_eq_true rfl) (Nat.le_of_ble_eq_true rfl) (x_kindAt (hs0.sr t) _ hq) (by decide) rfl ?_
    try simp (disch := omega) only [t0, f0, f1, f2, f3, f4, t1, l1, t2, l2, t3, l3, t4, l4, fn, fT, gP', tg]
    refine e_ret hK rfl rfl rfl ?_
    refine ⟨?_, rfl, rfl⟩
    congr 1
    unfold gk
    first | (rw [if_pos hb6]; done) | (rw [if_neg (by rw [hb6]; decide)])
  · replace hb6 := cq_eq.2.mp hb6
    try simp only [bo_0, Bool.not_eq_false] at hb6
    refine e_step (pc' := 10) hK rfl rfl rfl ?_
    refine e_goto (t := 22) hK rfl (by decide) ?_
    refine e_ret hK rfl rfl rfl ?_
    refine ⟨?_, rfl, rfl⟩
    congr 1
    unfold gk
    first | (rw [if_pos hb6]; done) | (rw [if_neg (by rw [hb6]; decide)])
set_option maxRecDepth 10000 in
theorem c_firstOf1 {s : Int} {A : lg} (hs : StA h s A) (t : Int) (ht : mv_i t) : ∀ (m : Nat) (i : Nat), i + m = gn A → lf (fun i => decide (gP A i = t)) i = -9999 → mv_Ev sc 28 2 [(2, s), (0, t), (0, (i : Int))] [] c h (mv_Rd (0, lf (fun i => decide (gP A i = t)) (gn A)) c h) := by
  intro m
  induction m with
  | zero =>
    intro i hi hf
    have hs0 := hs
    obtain ⟨⟨s1, s2, t0, f0, f1, f2, f3, f4, ⟨t1, l1⟩, ⟨t2, l2⟩, ⟨t3, l3⟩, ⟨t4, l4⟩, hl0⟩, hB, fn, fT, gL', gP', gS', gO'⟩ := hs
    have gl' := fun (i : Int) (h0 : 0 ≤ i) (h1 : i < gn A) => (gL' i h0 h1).pos
    have gs' := fun (t : Int) (h0 : 0 ≤ t) (h1 : t < gT A) => (gS' t h0 h1).pos
    have b1 := hB.1
    have b2 := hB.2.1
    have hK : (mv_m 28).1 = kc_State_firstOf := rfl
    refine e_step (pc' := 3) hK rfl rfl rfl ?_
    refine e_step (pc' := 4) hK rfl rfl rfl ?_
    refine e_getI (ci := 2) (k := 5) (pc' := 7) hK rfl (by simp (disch := omega) only [t0, f0, f1, f2, f3, f4, t1, l1, t2, l2, t3, l3, t4, l4, fn, fT, gP']) rfl rfl (by decide) (by decide) rfl ?_
    try simp (disch := omega) only [t0, f0, f1, f2, f3, f4, t1, l1, t2, l2, t3, l3, t4, l4, fn, fT, gP']
    refine e_icmp (t := 28) (pc' := 10) hK rfl (by first | omega | (have hx := gl' (↑i) (by omega) (by omega); omega) | (have hx := gs' (↑i) (by omega) (by omega); omega) | (have hx := hB.2.2.1 (↑i) (by omega) (by omega); omega)) (by first | omega | (have hx := gl' (↑i) (by omega) (by omega); omega) | (have hx := gs' (↑i) (by omega) (by omega); omega) | (have hx := hB.2.2.1 (↑i) (by omega) (by omega); omega)) (by decide) rfl (fun hb7 => ?_) (fun hb7 => ?_)
    · replace hb7 := cq_ge.1.mp hb7
      refine e_step (pc' := 31) hK rfl rfl rfl ?_
      refine e_ret hK rfl rfl rfl ?_
      refine ⟨?_, rfl, rfl⟩
      congr 1
      rw [show gn A = i from by omega, hf]
    · replace hb7 := cq_ge.2.mp hb7
      exfalso; first | omega | exact absurd trivial (by assumption) | (first | omega | (have hx := gl' (↑i) (by omega) (by omega); omega) | (have hx := gs' (↑i) (by omega) (by omega); omega) | (have hx := hB.2.2.1 (↑i) (by omega) (by omega); omega))
  | succ m ih =>
    intro i hi hf
    have hs0 := hs
    obtain ⟨⟨s1, s2, t0, f0, f1, f2, f3, f4, ⟨t1, l1⟩, ⟨t2, l2⟩, ⟨t3, l3⟩, ⟨t4, l4⟩, hl0⟩, hB, fn, fT, gL', gP', gS', gO'⟩ := hs
    have gl' := fun (i : Int) (h0 : 0 ≤ i) (h1 : i < gn A) => (gL' i h0 h1).pos
    have gs' := fun (t : Int) (h0 : 0 ≤ t) (h1 : t < gT A) => (gS' t h0 h1).pos
    have b1 := hB.1
    have b2 := hB.2.1
    have hK : (mv_m 28).1 = kc_State_firstOf := rfl
    refine e_step (pc' := 3) hK rfl rfl rfl ?_
    refine e_step (pc' := 4) hK rfl rfl rfl ?_
    refine e_getI (ci := 2) (k := 5) (pc' := 7) hK rfl (by simp (disch := omega) only [t0, f0, f1, f2, f3, f4, t1, l1, t2, l2, t3, l3, t4, l4, fn, fT, gP']) rfl rfl (by decide) (by decide) rfl ?_
    try simp (disch := omega) only [t0, f0, f1, f2, f3, f4, t1, l1, t2, l2, t3, l3, t4, l4, fn, fT, gP']
    refine e_icmp (t := 28) (pc' := 10) hK rfl (by first | omega | (have hx := gl' (↑i) (by omega) (by omega); omega) | (have hx := gs' (↑i) (by omega) (by omega); omega) | (have hx := hB.2.2.1 (↑i) (by omega) (by omega); omega)) (by first | omega | (have hx := gl' (↑i) (by omega) (by omega); omega) | (have hx := gs' (↑i) (by omega) (by omega); omega) | (have hx := hB.2.2.1 (↑i) (by omega) (by omega); omega)) (by decide) rfl (fun hb7 => ?_) (fun hb7 => ?_)
    · replace hb7 := cq_ge.1.mp hb7
      exfalso; first | omega | exact absurd trivial (by assumption) | (first | omega | (have hx := gl' (↑i) (by omega) (by omega); omega) | (have hx := gs' (↑i) (by omega) (by omega); omega) | (have hx := hB.2.2.1 (↑i) (by omega) (by omega); omega))
    · replace hb7 := cq_ge.2.mp hb7
      refine e_step (pc' := 11) hK rfl rfl rfl ?_
      refine e_getR (ci := 2) (k := 2) (pc' := 14) hK rfl (by simp (disch := omega) only [t0, f0, f1, f2, f3, f4, t1, l1, t2, l2, t3, l3, t4, l4, fn, fT, gP']) rfl rfl (by decide) (by decide) (by (try simp (disch := omega) only [t0, f0, f1, f2, f3, f4, t1, l1, t2, l2, t3, l3, t4, l4, fn, fT, gP']); first | omega | (have hx := gl' (↑i) (by omega) (by omega); omega) | (have hx := gs' (↑i) (by omega) (by omega); omega) | (have hx := hB.2.2.1 (↑i) (by omega) (by omega); omega)) rfl ?_
      try simp (disch := omega) only [t0, f0, f1, f2, f3, f4, t1, l1, t2, l2, t3, l3, t4, l4, fn, fT, gP']
      refine e_step (pc' := 15) hK rfl rfl rfl ?_
      refine e_iald (pc' := 16) hK rfl (by simp (disch := omega) only [t0, f0, f1, f2, f3, f4, t1, l1, t2, l2, t3, l3, t4, l4, fn, fT, gP']) (by first | omega | (have hx := gl' (↑i) (by omega) (by omega); omega) | (have hx := gs' (↑i) (by omega) (by omega); omega) | (have hx := hB.2.2.1 (↑i) (by omega) (by omega); omega)) (by (try simp (disch := omega) only [t0, f0, f1, f2, f3, f4, t1, l1, t2, l2, t3, l3, t4, l4, fn, fT, gP']); first | omega | (have hx := gl' (↑i) (by omega) (by omega); omega) | (have hx := gs' (↑i) (by omega) (by omega); omega) | (have hx := hB.2.2.1 (↑i) (by omega) (by omega); omega)) rfl ?_
      try simp (disch := omega) only [t0, f0, f1, f2, f3, f4, t1, l1, t2, l2, t3, l3, t4, l4, fn, fT, gP']
      refine e_step (pc' := 17) hK rfl rfl rfl ?_
      refine e_icmp (t := 22) (pc' := 20) hK rfl (by first | omega | (have hx := gl' (↑i) (by omega) (by omega); omega) | (have hx := gs' (↑i) (by omega) (by omega); omega) | (have hx := hB.2.2.1 (↑i) (by omega) (by omega); omega)) (by first | omega | (have hx := gl' (↑i) (by omega) (by omega); omega) | (have hx := gs' (↑i) (by omega) (by omega); omega) | (have hx := hB.2.2.1 (↑i) (by omega) (by omega); omega)) (by decide) rfl (fun hb17 => ?_) (fun hb17 => ?_)
      · replace hb17 := cq_ne.1.mp hb17
        refine e_step (pc' := 25) hK rfl rfl rfl ?_
        try simp only [List.set_cons_zero, List.set_cons_succ]
        refine e_goto (t := 2) hK rfl (by decide) ?_
        exact ih (i + 1) (by omega) (lf_s hf (decide_eq_false hb17))
      · replace hb17 := cq_ne.2.mp hb17
        refine e_step (pc' := 21) hK rfl rfl rfl ?_
        refine e_ret hK rfl rfl rfl ?_
        refine ⟨?_, rfl, rfl⟩
        congr 1
        exact (lf_hit hf (decide_eq_true hb17) (by omega)).symm
set_option maxRecDepth 10000 in
theorem c_firstOf {s : Int} {A : lg} (hs : StA h s A) (t : Int) (ht : mv_i t) : mv_Cl sc q_State_firstOf [(2, s), (0, t)] c h (mv_Rd (0, lf (fun i => decide (gP A i = t)) (gn A)) c h) := by
  have hs0 := hs
  obtain ⟨⟨s1, s2, t0, f0, f1, f2, f3, f4, ⟨t1, l1⟩, ⟨t2, l2⟩, ⟨t3, l3⟩, ⟨t4, l4⟩, hl0⟩, hB, fn, fT, gL', gP', gS', gO'⟩ := hs
  have gl' := fun (i : Int) (h0 : 0 ≤ i) (h1 : i < gn A) => (gL' i h0 h1).pos
  have gs' := fun (t : Int) (h0 : 0 ≤ t) (h1 : t < gT A) => (gS' t h0 h1).pos
  have b1 := hB.1
  have b2 := hB.2.1
  show mv_Ev sc 28 0 [(2, s), (0, t), (5, 0)] [] c h _
  have hK : (mv_m 28).1 = kc_State_firstOf := rfl
  refine e_step (pc' := 1) hK rfl rfl rfl ?_
  refine e_step (pc' := 2) hK rfl rfl rfl ?_
  try simp only [List.set_cons_zero, List.set_cons_succ]
  exact c_firstOf1 hs0 t ht (gn A) 0 (by omega) rfl
set_option maxRecDepth 10000 in
theorem c_lastOf1 {s : Int} {A : lg} (hs : StA h s A) (t pl : Int) (ht : mv_i t) (hp : mv_i pl) : ∀ (m : Nat) , m ≤ gn A → ll (fun i => decide (i < pl) && decide (gP A i = t)) (gn A) = ll (fun i => decide (i < pl) && decide (gP A i = t)) m → mv_Ev sc 25 7 [(2, s), (0, t), (0, pl), (0, (m : Int) - 1)] [] c h (mv_Rd (0, ll (fun i => decide (i < pl) && decide (gP A i = t)) (gn A)) c h) := by
  intro m
  induction m with
  | zero =>
    intro hi hf
    have hs0 := hs
    obtain ⟨⟨s1, s2, t0, f0, f1, f2, f3, f4, ⟨t1, l1⟩, ⟨t2, l2⟩, ⟨t3, l3⟩, ⟨t4, l4⟩, hl0⟩, hB, fn, fT, gL', gP', gS', gO'⟩ := hs
    have gl' := fun (i : Int) (h0 : 0 ≤ i) (h1 : i < gn A) => (gL' i h0 h1).pos
    have gs' := fun (t : Int) (h0 : 0 ≤ t) (h1 : t < gT A) => (gS' t h0 h1).pos
    have b1 := hB.1
    have b2 := hB.2.1
    have hK : (mv_m 25).1 = kc_State_lastOf := rfl
    refine e_step (pc' := 8) hK rfl rfl rfl ?_
    refine e_if (t := 34) (pc' := 11) hK rfl (by first | omega | (have hx := gl' (((m + 1 : Nat) : Int) - 1) (by omega) (by omega); omega) | (have hx := gs' (((m + 1 : Nat) : Int) - 1) (by omega) (by omega); omega) | (have hx := hB.2.2.1 (((m + 1 : Nat) : Int) - 1) (by omega) (by omega); omega)) (by decide) rfl (fun hb8 => ?_) (fun hb8 => ?_)
    · replace hb8 := cq_lt.1.mp hb8
      refine e_step (pc' := 37) hK rfl rfl rfl ?_
      refine e_ret hK rfl rfl rfl ?_
      refine ⟨?_, rfl, rfl⟩
      congr 1
      rw [hf]; rfl
    · replace hb8 := cq_lt.2.mp hb8
      exfalso; first | omega | exact absurd trivial (by assumption) | (first | omega | (have hx := gl' (((m + 1 : Nat) : Int) - 1) (by omega) (by omega); omega) | (have hx := gs' (((m + 1 : Nat) : Int) - 1) (by omega) (by omega); omega) | (have hx := hB.2.2.1 (((m + 1 : Nat) : Int) - 1) (by omega) (by omega); omega))
  | succ m ih =>
    intro hi hf
    have hs0 := hs
    obtain ⟨⟨s1, s2, t0, f0, f1, f2, f3, f4, ⟨t1, l1⟩, ⟨t2, l2⟩, ⟨t3, l3⟩, ⟨t4, l4⟩, hl0⟩, hB, fn, fT, gL', gP', gS', gO'⟩ := hs
    have gl' := fun (i : Int) (h0 : 0 ≤ i) (h1 : i < gn A) => (gL' i h0 h1).pos
    have gs' := fun (t : Int) (h0 : 0 ≤ t) (h1 : t < gT A) => (gS' t h0 h1).pos
    have b1 := hB.1
    have b2 := hB.2.1
    have hK : (mv_m 25).1 = kc_State_lastOf := rfl
    refine e_step (pc' := 8) hK rfl rfl rfl ?_
    refine e_if (t := 34) (pc' := 11) hK rfl (by first | omega | (have hx := gl' (((m + 1 : Nat) : Int) - 1) (by omega) (by omega); omega) | (have hx := gs' (((m + 1 : Nat) : Int) - 1) (by omega) (by omega); omega) | (have hx := hB.2.2.1 (((m + 1 : Nat) : Int) - 1) (by omega) (by omega); omega)) (by decide) rfl (fun hb8 => ?_) (fun hb8 => ?_)
    · replace hb8 := cq_lt.1.mp hb8
      exfalso; first | omega | exact absurd trivial (by assumption) | (first | omega | (have hx := gl' (((m + 1 : Nat) : Int) - 1) (by omega) (by omega); omega) | (have hx := gs' (((m + 1 : Nat) : Int) - 1) (by omega) (by omega); omega) | (have hx := hB.2.2.1 (((m + 1 : Nat) : Int) - 1) (by omega) (by omega); omega))
    · replace hb8 := cq_lt.2.mp hb8
      refine e_step (pc' := 12) hK rfl rfl rfl ?_
      refine e_step (pc' := 13) hK rfl rfl rfl ?_
      refine e_icmp (t := 28) (pc' := 16) hK rfl (by first | omega | (have hx := gl' (((m + 1 : Nat) : Int) - 1) (by omega) (by omega); omega) | (have hx := gs' (((m + 1 : Nat) : Int) - 1) (by omega) (by omega); omega) | (have hx := hB.2.2.1 (((m + 1 : Nat) : Int) - 1) (by omega) (by omega); omega)) (by first | omega | (have hx := gl' (((m + 1 : Nat) : Int) - 1) (by omega) (by omega); omega) | (have hx := gs' (((m + 1 : Nat) : Int) - 1) (by omega) (by omega); omega) | (have hx := hB.2.2.1 (((m + 1 : Nat) : Int) - 1) (by omega) (by omega); omega)) (by decide) rfl (fun hb13 => ?_) (fun hb13 => ?_)
      · replace hb13 := cq_ge.1.mp hb13
        refine e_step (pc' := 31) hK rfl rfl rfl ?_
        try simp only [List.set_cons_zero, List.set_cons_succ]
        refine e_goto (t := 7) hK rfl (by decide) ?_
        have hf2 : ll (fun i => decide (i < pl) && decide (gP A i = t)) (gn A) = ll (fun i => decide (i < pl) && decide (gP A i = t)) m := hf.trans (ll_s (by rw [show ((m : Nat) : Int) = ((m + 1 : Nat) : Int) - 1 from by omega, decide_eq_false (by omega), Bool.false_and]))
        rw [show ((m + 1 : Nat) : Int) - 1 = (m : Int) from by omega]
        exact ih (by omega) hf2
      · replace hb13 := cq_ge.2.mp hb13
        refine e_step (pc' := 17) hK rfl rfl rfl ?_
        refine e_getR (ci := 2) (k := 2) (pc' := 20) hK rfl (by simp (disch := omega) only [t0, f0, f1, f2, f3, f4, t1, l1, t2, l2, t3, l3, t4, l4, fn, fT, gP']) rfl rfl (by decide) (by decide) (by (try simp (disch := omega) only [t0, f0, f1, f2, f3, f4, t1, l1, t2, l2, t3, l3, t4, l4, fn, fT, gP']); first | omega | (have hx := gl' (((m + 1 : Nat) : Int) - 1) (by omega) (by omega); omega) | (have hx := gs' (((m + 1 : Nat) : Int) - 1) (by omega) (by omega); omega) | (have hx := hB.2.2.1 (((m + 1 : Nat) : Int) - 1) (by omega) (by omega); omega)) rfl ?_
        try simp (disch := omega) only [t0, f0, f1, f2, f3, f4, t1, l1, t2, l2, t3, l3, t4, l4, fn, fT, gP']
        refine e_step (pc' := 21) hK rfl rfl rfl ?_
        refine e_iald (pc' := 22) hK rfl (by simp (disch := omega) only [t0, f0, f1, f2, f3, f4, t1, l1, t2, l2, t3, l3, t4, l4, fn, fT, gP']) (by first | omega | (have hx := gl' (((m + 1 : Nat) : Int) - 1) (by omega) (by omega); omega) | (have hx := gs' (((m + 1 : Nat) : Int) - 1) (by omega) (by omega); omega) | (have hx := hB.2.2.1 (((m + 1 : Nat) : Int) - 1) (by omega) (by omega); omega)) (by (try simp (disch := omega) only [t0, f0, f1, f2, f3, f4, t1, l1, t2, l2, t3, l3, t4, l4, fn, fT, gP']); first | omega | (have hx := gl' (((m + 1 : Nat) : Int) - 1) (by omega) (by omega); omega) | (have hx := gs' (((m + 1 : Nat) : Int) - 1) (by omega) (by omega); omega) | (have hx := hB.2.2.1 (((m + 1 : Nat) : Int) - 1) (by omega) (by omega); omega)) rfl ?_
        try simp (disch := omega) only [t0, f0, f1, f2, f3, f4, t1, l1, t2, l2, t3, l3, t4, l4, fn, fT, gP']
        refine e_step (pc' := 23) hK rfl rfl rfl ?_
        refine e_icmp (t := 28) (pc' := 26) hK rfl (by first | omega | (have hx := gl' (((m + 1 : Nat) : Int) - 1) (by omega) (by omega); omega) | (have hx := gs' (((m + 1 : Nat) : Int) - 1) (by omega) (by omega); omega) | (have hx := hB.2.2.1 (((m + 1 : Nat) : Int) - 1) (by omega) (by omega); omega)) (by first | omega | (have hx := gl' (((m + 1 : Nat) : Int) - 1) (by omega) (by omega); omega) | (have hx := gs' (((m + 1 : Nat) : Int) - 1) (by omega) (by omega); omega) | (have hx := hB.2.2.1 (((m + 1 : Nat) : Int) - 1) (by omega) (by omega); omega)) (by decide) rfl (fun hb23 => ?_) (fun hb23 => ?_)
        · replace hb23 := cq_ne.1.mp hb23
          refine e_step (pc' := 31) hK rfl rfl rfl ?_
          try simp only [List.set_cons_zero, List.set_cons_succ]
          refine e_goto (t := 7) hK rfl (by decide) ?_
          have hf2 : ll (fun i => decide (i < pl) && decide (gP A i = t)) (gn A) = ll (fun i => decide (i < pl) && decide (gP A i = t)) m := hf.trans (ll_s (by rw [show ((m : Nat) : Int) = ((m + 1 : Nat) : Int) - 1 from by omega, decide_eq_false hb23, Bool.and_false]))
          rw [show ((m + 1 : Nat) : Int) - 1 = (m : Int) from by omega]
          exact ih (by omega) hf2
        · replace hb23 := cq_ne.2.mp hb23
          refine e_step (pc' := 27) hK rfl rfl rfl ?_
          refine e_ret hK rfl rfl rfl ?_
          refine ⟨?_, rfl, rfl⟩
          congr 1
          rw [hf, ll_h (by rw [show ((m : Nat) : Int) = ((m + 1 : Nat) : Int) - 1 from by omega, decide_eq_true hb13, decide_eq_true hb23]; rfl)]; omega
set_option maxRecDepth 10000 in
theorem c_lastOf {s : Int} {A : lg} (hs : StA h s A) (t pl : Int) (ht : mv_i t) (hp : mv_i pl) : mv_Cl sc q_State_lastOf [(2, s), (0, t), (0, pl)] c h (mv_Rd (0, ll (fun i => decide (i < pl) && decide (gP A i = t)) (gn A)) c h) := by
  have hs0 := hs
  obtain ⟨⟨s1, s2, t0, f0, f1, f2, f3, f4, ⟨t1, l1⟩, ⟨t2, l2⟩, ⟨t3, l3⟩, ⟨t4, l4⟩, hl0⟩, hB, fn, fT, gL', gP', gS', gO'⟩ := hs
  have gl' := fun (i : Int) (h0 : 0 ≤ i) (h1 : i < gn A) => (gL' i h0 h1).pos
  have gs' := fun (t : Int) (h0 : 0 ≤ t) (h1 : t < gT A) => (gS' t h0 h1).pos
  have b1 := hB.1
  have b2 := hB.2.1
  show mv_Ev sc 25 0 [(2, s), (0, t), (0, pl), (5, 0)] [] c h _
  have hK : (mv_m 25).1 = kc_State_lastOf := rfl
  refine e_step (pc' := 1) hK rfl rfl rfl ?_
  refine e_getI (ci := 2) (k := 5) (pc' := 4) hK rfl (by simp (disch := omega) only [t0, f0, f1, f2, f3, f4, t1, l1, t2, l2, t3, l3, t4, l4, fn, fT, gP']) rfl rfl (by decide) (by decide) rfl ?_
  try simp (disch := omega) only [t0, f0, f1, f2, f3, f4, t1, l1, t2, l2, t3, l3, t4, l4, fn, fT, gP']
  refine e_step (pc' := 5) hK rfl rfl rfl ?_
  refine e_step (pc' := 6) hK rfl rfl rfl ?_
  refine e_step (pc' := 7) hK rfl rfl rfl ?_
  try simp only [List.set_cons_zero, List.set_cons_succ]
  exact c_lastOf1 hs0 t pl ht hp (gn A) (by omega) rfl
set_option maxRecDepth 10000 in
theorem c_fits1 {s : Int} {A : lg} (hs : StA h s A) {l : Int} {x : xt} (hl : LnX h l x) (t : Int) (ht : mv_i t) (hx : xn x = xn (gs A t)) : ∀ (m : Nat) (i : Nat), i + m = (xn x).toNat → la (fun p => decide (xk x p = xk (gs A t) p) && (decide (xk x p = 3) || go A t p || xw x p (gs A t) p)) i = true → mv_Ev sc 24 22 [(2, s), (2, l), (0, t), (2, srf h s A t), (0, (i : Int))] [] c h (mv_Rd (0, mv_bo (gf A x t)) c h) := by
  intro m
  induction m with
  | zero =>
    intro i hi hf
    have hs0 := hs
    obtain ⟨⟨s1, s2, t0, f0, f1, f2, f3, f4, ⟨t1, l1⟩, ⟨t2, l2⟩, ⟨t3, l3⟩, ⟨t4, l4⟩, hl0⟩, hB, fn, fT, gL', gP', gS', gO'⟩ := hs
    have gl' := fun (i : Int) (h0 : 0 ≤ i) (h1 : i < gn A) => (gL' i h0 h1).pos
    have gs' := fun (t : Int) (h0 : 0 ≤ t) (h1 : t < gT A) => (gS' t h0 h1).pos
    have b1 := hB.1
    have b2 := hB.2.1
    obtain ⟨n1, n2, n3, n4⟩ := xn_b hl.ok
    have hr := hs0.sr t
    obtain ⟨m1, m2, m3, m4⟩ := xn_b hr.ok
    have g1 := hl.n
    have g2 := hr.n
    have g3 := hl.tag
    have g4 := hr.tag
    have hK : (mv_m 24).1 = kc_State_fits := rfl
    refine e_step (pc' := 24) hK rfl rfl rfl ?_
    refine e_step (pc' := 25) hK rfl rfl rfl ?_
    refine e_getI (ci := 1) (k := 6) (pc' := 28) hK rfl (by simp (disch := omega) only [t0, f0, f1, f2, f3, f4, t1, l1, t2, l2, t3, l3, t4, l4, fn, fT, gP', g1, g2, g3, g4]) rfl rfl (by decide) (by decide) rfl ?_
    try simp (disch := omega) only [t0, f0, f1, f2, f3, f4, t1, l1, t2, l2, t3, l3, t4, l4, fn, fT, gP', g1, g2, g3, g4]
    refine e_icmp (t := 88) (pc' := 31) hK rfl (by first | omega | exact bo_i _ | (have q1 := xk_b hl.ok (i : Int); have q2 := xk_b hr.ok (i : Int); omega)) (by first | omega | exact bo_i _ | (have q1 := xk_b hl.ok (i : Int); have q2 := xk_b hr.ok (i : Int); omega)) (by decide) rfl (fun hb28 => ?_) (fun hb28 => ?_)
    · replace hb28 := cq_ge.1.mp hb28
      try simp only [bo_0, Bool.not_eq_false] at hb28
      refine e_step (pc' := 89) hK rfl rfl rfl ?_
      refine e_ret hK rfl rfl (by first | rfl | (simp only [mv_ret]; rw [if_pos]; exact Or.inr ⟨rfl, by omega⟩)) ?_
      refine ⟨?_, rfl, rfl⟩
      congr 1
      unfold gf
      rw [decide_eq_true hx, show (xn x).toNat = i from by omega, hf]
      rfl
    · replace hb28 := cq_ge.2.mp hb28
      try simp only [bo_0, Bool.not_eq_false] at hb28
      exfalso; first | omega | exact absurd trivial (by assumption) | (first | omega | exact bo_i _ | (have q1 := xk_b hl.ok (i : Int); have q2 := xk_b hr.ok (i : Int); omega))
  | succ m ih =>
    intro i hi hf
    have hs0 := hs
    obtain ⟨⟨s1, s2, t0, f0, f1, f2, f3, f4, ⟨t1, l1⟩, ⟨t2, l2⟩, ⟨t3, l3⟩, ⟨t4, l4⟩, hl0⟩, hB, fn, fT, gL', gP', gS', gO'⟩ := hs
    have gl' := fun (i : Int) (h0 : 0 ≤ i) (h1 : i < gn A) => (gL' i h0 h1).pos
    have gs' := fun (t : Int) (h0 : 0 ≤ t) (h1 : t < gT A) => (gS' t h0 h1).pos
    have b1 := hB.1
    have b2 := hB.2.1
    obtain ⟨n1, n2, n3, n4⟩ := xn_b hl.ok
    have hr := hs0.sr t
    obtain ⟨m1, m2, m3, m4⟩ := xn_b hr.ok
    have g1 := hl.n
    have g2 := hr.n
    have g3 := hl.tag
    have g4 := hr.tag
    have hK : (mv_m 24).1 = kc_State_fits := rfl
    refine e_step (pc' := 24) hK rfl rfl rfl ?_
    refine e_step (pc' := 25) hK rfl rfl rfl ?_
    refine e_getI (ci := 1) (k := 6) (pc' := 28) hK rfl (by simp (disch := omega) only [t0, f0, f1, f2, f3, f4, t1, l1, t2, l2, t3, l3, t4, l4, fn, fT, gP', g1, g2, g3, g4]) rfl rfl (by decide) (by decide) rfl ?_
    try simp (disch := omega) only [t0, f0, f1, f2, f3, f4, t1, l1, t2, l2, t3, l3, t4, l4, fn, fT, gP', g1, g2, g3, g4]
    refine e_icmp (t := 88) (pc' := 31) hK rfl (by first | omega | exact bo_i _ | (have q1 := xk_b hl.ok (i : Int); have q2 := xk_b hr.ok (i : Int); omega)) (by first | omega | exact bo_i _ | (have q1 := xk_b hl.ok (i : Int); have q2 := xk_b hr.ok (i : Int); omega)) (by decide) rfl (fun hb28 => ?_) (fun hb28 => ?_)
    · replace hb28 := cq_ge.1.mp hb28
      try simp only [bo_0, Bool.not_eq_false] at hb28
      exfalso; first | omega | exact absurd trivial (by assumption) | (first | omega | exact bo_i _ | (have q1 := xk_b hl.ok (i : Int); have q2 := xk_b hr.ok (i : Int); omega))
    · replace hb28 := cq_ge.2.mp hb28
      try simp only [bo_0, Bool.not_eq_false] at hb28
      refine e_step (pc' := 32) hK rfl rfl rfl ?_
      refine e_step (pc' := 34) hK rfl rfl rfl ?_
      refine e_cRV2 (z := 8) (pc' := 37) hK rfl rfl (by simp (disch := omega) only [t0, f0, f1, f2, f3, f4, t1, l1, t2, l2, t3, l3, t4, l4, fn, fT, gP', g1, g2, g3, g4]; rfl) rfl (Nat.le_of_ble_eq_true rfl) (Nat.le_of_ble_eq_true rfl) (x_kindAt hl _ (by omega)) (by decide) rfl ?_
      try simp (disch := omega) only [t0, f0, f1, f2, f3, f4, t1, l1, t2, l2, t3, l3, t4, l4, fn, fT, gP', g1, g2, g3, g4]
      refine e_step (pc' := 38) hK rfl rfl rfl ?_
      refine e_step (pc' := 40) hK rfl rfl rfl ?_
      refine e_cRV2 (z := 8) (pc' := 43) hK rfl rfl (by simp (disch := omega) only [t0, f0, f1, f2, f3, f4, t1, l1, t2, l2, t3, l3, t4, l4, fn, fT, gP', g1, g2, g3, g4]; rfl) rfl (Nat.le_of_ble_eq_true rfl) (Nat.le_of_ble_eq_true rfl) (x_kindAt hr _ (by omega)) (by decide) rfl ?_
      try simp (disch := omega) only [t0, f0, f1, f2, f3, f4, t1, l1, t2, l2, t3, l3, t4, l4, fn, fT, gP', g1, g2, g3, g4]
      refine e_icmp (t := 48) (pc' := 46) hK rfl (by first | omega | exact bo_i _ | (have q1 := xk_b hl.ok (i : Int); have q2 := xk_b hr.ok (i : Int); omega)) (by first | omega | exact bo_i _ | (have q1 := xk_b hl.ok (i : Int); have q2 := xk_b hr.ok (i : Int); omega)) (by decide) rfl (fun hb43 => ?_) (fun hb43 => ?_)
      · replace hb43 := cq_eq.1.mp hb43
        try simp only [bo_0, Bool.not_eq_false] at hb43
        refine e_step (pc' := 49) hK rfl rfl rfl ?_
        refine e_step (pc' := 51) hK rfl rfl rfl ?_
        refine e_cRV2 (z := 8) (pc' := 54) hK rfl rfl (by simp (disch := omega) only [t0, f0, f1, f2, f3, f4, t1, l1, t2, l2, t3, l3, t4, l4, fn, fT, gP', g1, g2, g3, g4]; rfl) rfl (Nat.le_of_ble_eq_true rfl) (Nat.le_of_ble_eq_true rfl) (x_kindAt hl _ (by omega)) (by decide) rfl ?_
        try simp (disch := omega) only [t0, f0, f1, f2, f3, f4, t1, l1, t2, l2, t3, l3, t4, l4, fn, fT, gP', g1, g2, g3, g4]
        refine e_step (pc' := 55) hK rfl rfl rfl ?_
        refine e_icmp (t := 82) (pc' := 58) hK rfl (by first | omega | exact bo_i _ | (have q1 := xk_b hl.ok (i : Int); have q2 := xk_b hr.ok (i : Int); omega)) (by first | omega | exact bo_i _ | (have q1 := xk_b hl.ok (i : Int); have q2 := xk_b hr.ok (i : Int); omega)) (by decide) rfl (fun hb55 => ?_) (fun hb55 => ?_)
        · replace hb55 := cq_eq.1.mp hb55
          try simp only [bo_0, Bool.not_eq_false] at hb55
          refine e_step (pc' := 85) hK rfl rfl rfl ?_
          try simp only [List.set_cons_zero, List.set_cons_succ]
          refine e_goto (t := 22) hK rfl (by decide) ?_
          exact ih (i + 1) (by omega) (la_s hf (by show (decide _ && _) = true; rw [decide_eq_true hb43, decide_eq_true hb55]; rfl))
        · replace hb55 := cq_eq.2.mp hb55
          try simp only [bo_0, Bool.not_eq_false] at hb55
          refine e_step (pc' := 59) hK rfl rfl rfl ?_
          refine e_step (pc' := 60) hK rfl rfl rfl ?_
          refine e_step (pc' := 62) hK rfl rfl rfl ?_
          refine e_cRV3 (z := 19) (pc' := 65) hK rfl rfl (by simp (disch := omega) only [t0, f0, f1, f2, f3, f4, t1, l1, t2, l2, t3, l3, t4, l4, fn, fT, gP', g1, g2, g3, g4]; rfl) rfl (Nat.le_of_ble_eq_true rfl) (Nat.le_of_ble_eq_true rfl) (c_isOpen hs0 _ _ ht (by omega)) (by decide) rfl ?_
          try simp (disch := omega) only [t0, f0, f1, f2, f3, f4, t1, l1, t2, l2, t3, l3, t4, l4, fn, fT, gP', g1, g2, g3, g4]
          refine e_if (t := 82) (pc' := 68) hK rfl (by first | omega | exact bo_i _ | (have q1 := xk_b hl.ok (i : Int); have q2 := xk_b hr.ok (i : Int); omega)) (by decide) rfl (fun hb65 => ?_) (fun hb65 => ?_)
          · replace hb65 := cq_ne.1.mp hb65
            try simp only [bo_0, Bool.not_eq_false] at hb65
            refine e_step (pc' := 85) hK rfl rfl rfl ?_
            try simp only [List.set_cons_zero, List.set_cons_succ]
            refine e_goto (t := 22) hK rfl (by decide) ?_
            exact ih (i + 1) (by omega) (la_s hf (by show (decide _ && _) = true; rw [decide_eq_true hb43, hb65, Bool.or_true]; rfl))
          · replace hb65 := cq_ne.2.mp hb65
            try simp only [bo_0, Bool.not_eq_false] at hb65
            refine e_step (pc' := 69) hK rfl rfl rfl ?_
            refine e_step (pc' := 71) hK rfl rfl rfl ?_
            refine e_step (pc' := 72) hK rfl rfl rfl ?_
            refine e_step (pc' := 74) hK rfl rfl rfl ?_
            refine e_cRV4 (z := 9) (pc' := 77) hK rfl rfl (by simp (disch := omega) only [t0, f0, f1, f2, f3, f4, t1, l1, t2, l2, t3, l3, t4, l4, fn, fT, gP', g1, g2, g3, g4]; rfl) rfl (Nat.le_of_ble_eq_true rfl) (Nat.le_of_ble_eq_true rfl) (x_written hl hr _ _ (by omega) (by omega)) (by decide) rfl ?_
            try simp (disch := omega) only [t0, f0, f1, f2, f3, f4, t1, l1, t2, l2, t3, l3, t4, l4, fn, fT, gP', g1, g2, g3, g4]
            refine e_if (t := 82) (pc' := 80) hK rfl (by first | omega | exact bo_i _ | (have q1 := xk_b hl.ok (i : Int); have q2 := xk_b hr.ok (i : Int); omega)) (by decide) rfl (fun hb77 => ?_) (fun hb77 => ?_)
            · replace hb77 := cq_ne.1.mp hb77
              try simp only [bo_0, Bool.not_eq_false] at hb77
              refine e_step (pc' := 85) hK rfl rfl rfl ?_
              try simp only [List.set_cons_zero, List.set_cons_succ]
              refine e_goto (t := 22) hK rfl (by decide) ?_
              exact ih (i + 1) (by omega) (la_s hf (by show (decide _ && _) = true; rw [decide_eq_true hb43, hb77, Bool.or_true]; rfl))
            · replace hb77 := cq_ne.2.mp hb77
              try simp only [bo_0, Bool.not_eq_false] at hb77
              refine e_step (pc' := 81) hK rfl rfl rfl ?_
              refine e_ret hK rfl rfl (by first | rfl | (simp only [mv_ret]; rw [if_pos]; exact Or.inr ⟨rfl, by omega⟩)) ?_
              refine ⟨?_, rfl, rfl⟩
              congr 1
              show 0 = mv_bo (gf A x t)
              have hq : (fun p => decide (xk x p = xk (gs A t) p) && (decide (xk x p = 3) || go A t p || xw x p (gs A t) p)) (i : Int) = false := by
                show (decide _ && _) = false
                rw [decide_eq_false hb55, hb65, hb77, Bool.or_self, Bool.or_self, Bool.and_false]
              unfold gf
              rw [la_f hq (by omega), Bool.and_false]
              rfl
      · replace hb43 := cq_eq.2.mp hb43
        try simp only [bo_0, Bool.not_eq_false] at hb43
        refine e_step (pc' := 47) hK rfl rfl rfl ?_
        refine e_ret hK rfl rfl (by first | rfl | (simp only [mv_ret]; rw [if_pos]; exact Or.inr ⟨rfl, by omega⟩)) ?_
        refine ⟨?_, rfl, rfl⟩
        congr 1
        show 0 = mv_bo (gf A x t)
        have hq : (fun p => decide (xk x p = xk (gs A t) p) && (decide (xk x p = 3) || go A t p || xw x p (gs A t) p)) (i : Int) = false := by
          show (decide _ && _) = false
          rw [decide_eq_false hb43, Bool.false_and]
        unfold gf
        rw [la_f hq (by omega), Bool.and_false]
        rfl
set_option maxRecDepth 10000 in
theorem c_fits {s : Int} {A : lg} (hs : StA h s A) {l : Int} {x : xt} (hl : LnX h l x) (t : Int) (ht : mv_i t) : mv_Cl sc q_State_fits [(2, s), (2, l), (0, t)] c h (mv_Rd (0, mv_bo (gf A x t)) c h) := by
  have hs0 := hs
  obtain ⟨⟨s1, s2, t0, f0, f1, f2, f3, f4, ⟨t1, l1⟩, ⟨t2, l2⟩, ⟨t3, l3⟩, ⟨t4, l4⟩, hl0⟩, hB, fn, fT, gL', gP', gS', gO'⟩ := hs
  have gl' := fun (i : Int) (h0 : 0 ≤ i) (h1 : i < gn A) => (gL' i h0 h1).pos
  have gs' := fun (t : Int) (h0 : 0 ≤ t) (h1 : t < gT A) => (gS' t h0 h1).pos
  have b1 := hB.1
  have b2 := hB.2.1
  obtain ⟨n1, n2, n3, n4⟩ := xn_b hl.ok
  have hr := hs0.sr t
  obtain ⟨m1, m2, m3, m4⟩ := xn_b hr.ok
  have g1 := hl.n
  have g2 := hr.n
  have g3 := hl.tag
  have g4 := hr.tag
  show mv_Ev sc 24 0 [(2, s), (2, l), (0, t), (5, 0), (5, 0)] [] c h _
  have hK : (mv_m 24).1 = kc_State_fits := rfl
  refine e_step (pc' := 1) hK rfl rfl rfl ?_
  refine e_step (pc' := 2) hK rfl rfl rfl ?_
  refine e_cRV2 (z := 17) (pc' := 5) hK rfl rfl (by simp (disch := omega) only [t0, f0, f1, f2, f3, f4, t1, l1, t2, l2, t3, l3, t4, l4, fn, fT, gP', g1, g2, g3, g4]; rfl) rfl (Nat.le_of_ble_eq_true rfl) (Nat.le_of_ble_eq_true rfl) (c_sampleAt hs0 _ ht) (by decide) rfl ?_
  try simp (disch := omega) only [t0, f0, f1, f2, f3, f4, t1, l1, t2, l2, t3, l3, t4, l4, fn, fT, gP', g1, g2, g3, g4]
  refine e_step (pc' := 6) hK rfl rfl rfl ?_
  try simp only [List.set_cons_zero, List.set_cons_succ]
  refine e_step (pc' := 7) hK rfl rfl rfl ?_
  refine e_getI (ci := 1) (k := 6) (pc' := 10) hK rfl (by simp (disch := omega) only [t0, f0, f1, f2, f3, f4, t1, l1, t2, l2, t3, l3, t4, l4, fn, fT, gP', g1, g2, g3, g4]) rfl rfl (by decide) (by decide) rfl ?_
  try simp (disch := omega) only [t0, f0, f1, f2, f3, f4, t1, l1, t2, l2, t3, l3, t4, l4, fn, fT, gP', g1, g2, g3, g4]
  refine e_step (pc' := 11) hK rfl rfl rfl ?_
  refine e_getI (ci := 1) (k := 6) (pc' := 14) hK rfl (by simp (disch := omega) only [t0, f0, f1, f2, f3, f4, t1, l1, t2, l2, t3, l3, t4, l4, fn, fT, gP', g1, g2, g3, g4]) rfl rfl (by decide) (by decide) rfl ?_
  try simp (disch := omega) only [t0, f0, f1, f2, f3, f4, t1, l1, t2, l2, t3, l3, t4, l4, fn, fT, gP', g1, g2, g3, g4]
  refine e_icmp (t := 19) (pc' := 17) hK rfl (by first | omega | exact bo_i _ | (have q1 := xk_b hl.ok (i : Int); have q2 := xk_b hr.ok (i : Int); omega)) (by first | omega | exact bo_i _ | (have q1 := xk_b hl.ok (i : Int); have q2 := xk_b hr.ok (i : Int); omega)) (by decide) rfl (fun hb14 => ?_) (fun hb14 => ?_)
  · replace hb14 := cq_eq.1.mp hb14
    try simp only [bo_0, Bool.not_eq_false] at hb14
    refine e_step (pc' := 20) hK rfl rfl rfl ?_
    refine e_step (pc' := 22) hK rfl rfl rfl ?_
    try simp only [List.set_cons_zero, List.set_cons_succ]
    exact c_fits1 hs0 hl t ht hb14 (xn x).toNat 0 (by omega) rfl
  · replace hb14 := cq_eq.2.mp hb14
    try simp only [bo_0, Bool.not_eq_false] at hb14
    refine e_step (pc' := 18) hK rfl rfl rfl ?_
    refine e_ret hK rfl rfl (by first | rfl | (simp only [mv_ret]; rw [if_pos]; exact Or.inr ⟨rfl, by omega⟩)) ?_
    refine ⟨?_, rfl, rfl⟩
    congr 1
    unfold gf
    rw [decide_eq_false hb14, Bool.false_and]
    rfl
set_option maxRecDepth 10000 in
theorem c_firstFit1 {s : Int} {A : lg} (hs : StA h s A) {l : Int} {x : xt} (hl : LnX h l x) : ∀ (m : Nat) (i : Nat), i + m = gT A → lf (fun t => gf A x t) i = -9999 → mv_Ev sc 23 2 [(2, s), (2, l), (0, (i : Int))] [] c h (mv_Rd (0, gff A x) c h) := by
  intro m
  induction m with
  | zero =>
    intro i hi hf
    have hs0 := hs
    obtain ⟨⟨s1, s2, t0, f0, f1, f2, f3, f4, ⟨t1, l1⟩, ⟨t2, l2⟩, ⟨t3, l3⟩, ⟨t4, l4⟩, hl0⟩, hB, fn, fT, gL', gP', gS', gO'⟩ := hs
    have gl' := fun (i : Int) (h0 : 0 ≤ i) (h1 : i < gn A) => (gL' i h0 h1).pos
    have gs' := fun (t : Int) (h0 : 0 ≤ t) (h1 : t < gT A) => (gS' t h0 h1).pos
    have b1 := hB.1
    have b2 := hB.2.1
    have hK : (mv_m 23).1 = kc_State_firstFit := rfl
    refine e_step (pc' := 3) hK rfl rfl rfl ?_
    refine e_step (pc' := 4) hK rfl rfl rfl ?_
    refine e_getI (ci := 2) (k := 6) (pc' := 7) hK rfl (by simp (disch := omega) only [t0, f0, f1, f2, f3, f4, t1, l1, t2, l2, t3, l3, t4, l4, fn, fT, gP']) rfl rfl (by decide) (by decide) rfl ?_
    try simp (disch := omega) only [t0, f0, f1, f2, f3, f4, t1, l1, t2, l2, t3, l3, t4, l4, fn, fT, gP']
    refine e_icmp (t := 27) (pc' := 10) hK rfl (by first | omega | exact bo_i _) (by first | omega | exact bo_i _) (by decide) rfl (fun hb7 => ?_) (fun hb7 => ?_)
    · replace hb7 := cq_ge.1.mp hb7
      try simp only [bo_0, Bool.not_eq_false] at hb7
      refine e_step (pc' := 30) hK rfl rfl rfl ?_
      refine e_ret hK rfl rfl rfl ?_
      refine ⟨?_, rfl, rfl⟩
      congr 1
      unfold gff
      rw [show gT A = i from by omega, hf]
    · replace hb7 := cq_ge.2.mp hb7
      try simp only [bo_0, Bool.not_eq_false] at hb7
      exfalso; first | omega | exact absurd trivial (by assumption) | (first | omega | exact bo_i _)
  | succ m ih =>
    intro i hi hf
    have hs0 := hs
    obtain ⟨⟨s1, s2, t0, f0, f1, f2, f3, f4, ⟨t1, l1⟩, ⟨t2, l2⟩, ⟨t3, l3⟩, ⟨t4, l4⟩, hl0⟩, hB, fn, fT, gL', gP', gS', gO'⟩ := hs
    have gl' := fun (i : Int) (h0 : 0 ≤ i) (h1 : i < gn A) => (gL' i h0 h1).pos
    have gs' := fun (t : Int) (h0 : 0 ≤ t) (h1 : t < gT A) => (gS' t h0 h1).pos
    have b1 := hB.1
    have b2 := hB.2.1
    have hK : (mv_m 23).1 = kc_State_firstFit := rfl
    refine e_step (pc' := 3) hK rfl rfl rfl ?_
    refine e_step (pc' := 4) hK rfl rfl rfl ?_
    refine e_getI (ci := 2) (k := 6) (pc' := 7) hK rfl (by simp (disch := omega) only [t0, f0, f1, f2, f3, f4, t1, l1, t2, l2, t3, l3, t4, l4, fn, fT, gP']) rfl rfl (by decide) (by decide) rfl ?_
    try simp (disch := omega) only [t0, f0, f1, f2, f3, f4, t1, l1, t2, l2, t3, l3, t4, l4, fn, fT, gP']
    refine e_icmp (t := 27) (pc' := 10) hK rfl (by first | omega | exact bo_i _) (by first | omega | exact bo_i _) (by decide) rfl (fun hb7 => ?_) (fun hb7 => ?_)
    · replace hb7 := cq_ge.1.mp hb7
      try simp only [bo_0, Bool.not_eq_false] at hb7
      exfalso; first | omega | exact absurd trivial (by assumption) | (first | omega | exact bo_i _)
    · replace hb7 := cq_ge.2.mp hb7
      try simp only [bo_0, Bool.not_eq_false] at hb7
      refine e_step (pc' := 11) hK rfl rfl rfl ?_
      refine e_step (pc' := 12) hK rfl rfl rfl ?_
      refine e_step (pc' := 13) hK rfl rfl rfl ?_
      refine e_cRV3 (z := 24) (pc' := 16) hK rfl rfl (by simp (disch := omega) only [t0, f0, f1, f2, f3, f4, t1, l1, t2, l2, t3, l3, t4, l4, fn, fT, gP']; rfl) rfl (Nat.le_of_ble_eq_true rfl) (Nat.le_of_ble_eq_true rfl) (c_fits hs0 hl _ (by omega)) (by decide) rfl ?_
      try simp (disch := omega) only [t0, f0, f1, f2, f3, f4, t1, l1, t2, l2, t3, l3, t4, l4, fn, fT, gP']
      refine e_if (t := 21) (pc' := 19) hK rfl (by first | omega | exact bo_i _) (by decide) rfl (fun hb16 => ?_) (fun hb16 => ?_)
      · replace hb16 := cq_eq.1.mp hb16
        try simp only [bo_0, Bool.not_eq_false] at hb16
        refine e_step (pc' := 24) hK rfl rfl rfl ?_
        try simp only [List.set_cons_zero, List.set_cons_succ]
        refine e_goto (t := 2) hK rfl (by decide) ?_
        exact ih (i + 1) (by omega) (lf_s hf hb16)
      · replace hb16 := cq_eq.2.mp hb16
        try simp only [bo_0, Bool.not_eq_false] at hb16
        refine e_step (pc' := 20) hK rfl rfl rfl ?_
        refine e_ret hK rfl rfl rfl ?_
        refine ⟨?_, rfl, rfl⟩
        congr 1
        exact (lf_hit hf hb16 (by omega)).symm
set_option maxRecDepth 10000 in
theorem c_firstFit {s : Int} {A : lg} (hs : StA h s A)  {l : Int} {x : xt} (hl : LnX h l x) : mv_Cl sc q_State_firstFit [(2, s), (2, l)] c h (mv_Rd (0, gff A x) c h) := by
  have hs0 := hs
  obtain ⟨⟨s1, s2, t0, f0, f1, f2, f3, f4, ⟨t1, l1⟩, ⟨t2, l2⟩, ⟨t3, l3⟩, ⟨t4, l4⟩, hl0⟩, hB, fn, fT, gL', gP', gS', gO'⟩ := hs
  have gl' := fun (i : Int) (h0 : 0 ≤ i) (h1 : i < gn A) => (gL' i h0 h1).pos
  have gs' := fun (t : Int) (h0 : 0 ≤ t) (h1 : t < gT A) => (gS' t h0 h1).pos
  have b1 := hB.1
  have b2 := hB.2.1
  show mv_Ev sc 23 0 [(2, s), (2, l), (5, 0)] [] c h _
  have hK : (mv_m 23).1 = kc_State_firstFit := rfl
  refine e_step (pc' := 1) hK rfl rfl rfl ?_
  refine e_step (pc' := 2) hK rfl rfl rfl ?_
  try simp only [List.set_cons_zero, List.set_cons_succ]
  exact c_firstFit1 hs0 hl (gT A) 0 (by omega) rfl
set_option maxRecDepth 10000 in
theorem c_templateFor {s : Int} {A : lg} (hs : StA h s A)  {l : Int} {x : xt} (hl : LnX h l x) : mv_Cl sc q_State_templateFor [(2, s), (2, l)] c h (mv_Rd (0, gtf A x) c h) := by
  have hs0 := hs
  obtain ⟨⟨s1, s2, t0, f0, f1, f2, f3, f4, ⟨t1, l1⟩, ⟨t2, l2⟩, ⟨t3, l3⟩, ⟨t4, l4⟩, hl0⟩, hB, fn, fT, gL', gP', gS', gO'⟩ := hs
  have gl' := fun (i : Int) (h0 : 0 ≤ i) (h1 : i < gn A) => (gL' i h0 h1).pos
  have gs' := fun (t : Int) (h0 : 0 ≤ t) (h1 : t < gT A) => (gS' t h0 h1).pos
  have b1 := hB.1
  have b2 := hB.2.1
  show mv_Ev sc 29 0 [(2, s), (2, l), (5, 0)] [] c h _
  have hK : (mv_m 29).1 = kc_State_templateFor := rfl
  refine e_step (pc' := 1) hK rfl rfl rfl ?_
  refine e_getI (ci := 2) (k := 5) (pc' := 4) hK rfl (by simp (disch := omega) only [t0, f0, f1, f2, f3, f4, t1, l1, t2, l2, t3, l3, t4, l4, fn, fT, gP']) rfl rfl (by decide) (by decide) rfl ?_
  try simp (disch := omega) only [t0, f0, f1, f2, f3, f4, t1, l1, t2, l2, t3, l3, t4, l4, fn, fT, gP']
  refine e_step (pc' := 6) hK rfl rfl rfl ?_
  refine e_icmp (t := 13) (pc' := 9) hK rfl (by omega) (by omega) (by decide) rfl (fun hb6 => ?_) (fun hb6 => ?_)
  · replace hb6 := cq_lt.1.mp hb6
    refine e_step (pc' := 14) hK rfl rfl rfl ?_
    refine e_step (pc' := 15) hK rfl rfl rfl ?_
    refine e_cRV2 (z := 23) (pc' := 18) hK rfl rfl (by simp (disch := omega) only [t0, f0, f1, f2, f3, f4, t1, l1, t2, l2, t3, l3, t4, l4, fn, fT, gP']; rfl) rfl (Nat.le_of_ble_eq_true rfl) (Nat.le_of_ble_eq_true rfl) (c_firstFit hs0 hl) (by decide) rfl ?_
    try simp (disch := omega) only [t0, f0, f1, f2, f3, f4, t1, l1, t2, l2, t3, l3, t4, l4, fn, fT, gP']
    have gb := gff_b A x
    refine e_step (pc' := 19) hK rfl rfl rfl ?_
    try simp only [List.set_cons_zero, List.set_cons_succ]
    refine e_step (pc' := 20) hK rfl rfl rfl ?_
    refine e_step (pc' := 23) hK rfl rfl rfl ?_
    refine e_icmp (t := 42) (pc' := 26) hK rfl (by omega) (by omega) (by decide) rfl (fun hb23 => ?_) (fun hb23 => ?_)
    · replace hb23 := cq_ne.1.mp hb23
      refine e_step (pc' := 43) hK rfl rfl rfl ?_
      refine e_ret hK rfl rfl rfl ?_
      refine ⟨?_, rfl, rfl⟩
      congr 1
      unfold gtf
      (repeat' split) <;> first | rfl | omega
    · replace hb23 := cq_ne.2.mp hb23
      refine e_step (pc' := 27) hK rfl rfl rfl ?_
      refine e_getI (ci := 2) (k := 6) (pc' := 30) hK rfl (by simp (disch := omega) only [t0, f0, f1, f2, f3, f4, t1, l1, t2, l2, t3, l3, t4, l4, fn, fT, gP']) rfl rfl (by decide) (by decide) rfl ?_
      try simp (disch := omega) only [t0, f0, f1, f2, f3, f4, t1, l1, t2, l2, t3, l3, t4, l4, fn, fT, gP']
      refine e_step (pc' := 32) hK rfl rfl rfl ?_
      refine e_icmp (t := 42) (pc' := 35) hK rfl (by omega) (by omega) (by decide) rfl (fun hb32 => ?_) (fun hb32 => ?_)
      · replace hb32 := cq_ge.1.mp hb32
        refine e_step (pc' := 43) hK rfl rfl rfl ?_
        refine e_ret hK rfl rfl rfl ?_
        refine ⟨?_, rfl, rfl⟩
        congr 1
        unfold gtf
        (repeat' split) <;> first | rfl | omega
      · replace hb32 := cq_ge.2.mp hb32
        refine e_step (pc' := 36) hK rfl rfl rfl ?_
        refine e_getI (ci := 2) (k := 6) (pc' := 39) hK rfl (by simp (disch := omega) only [t0, f0, f1, f2, f3, f4, t1, l1, t2, l2, t3, l3, t4, l4, fn, fT, gP']) rfl rfl (by decide) (by decide) rfl ?_
        try simp (disch := omega) only [t0, f0, f1, f2, f3, f4, t1, l1, t2, l2, t3, l3, t4, l4, fn, fT, gP']
        refine e_goto (t := 43) hK rfl (by decide) ?_
        refine e_ret hK rfl rfl rfl ?_
        refine ⟨?_, rfl, rfl⟩
        congr 1
        unfold gtf
        (repeat' split) <;> first | rfl | omega
  · replace hb6 := cq_lt.2.mp hb6
    refine e_step (pc' := 12) hK rfl rfl rfl ?_
    refine e_ret hK rfl rfl rfl ?_
    refine ⟨?_, rfl, rfl⟩
    congr 1
    unfold gtf
    (repeat' split) <;> first | rfl | omega
end ST
