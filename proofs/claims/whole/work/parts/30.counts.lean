/-! more numbers of a log (written by wip/whole/m30.py) -/
section CU
variable {sc : Int × (Int → Int)} {c : mv_C} {h : mv_H}
set_option maxRecDepth 10000 in
theorem c_hasv1 {l : Int} {x : xt} (hl : LnX h l x) (v : Int) (hv : mv_i v) : ∀ (m : Nat) (i : Nat), i + m = (xn x).toNat ∧ lo (fun p => decide (xv x p = v)) i = false → mv_Ev sc 94 2 [(2, l), (0, v), (0, (i : Int))] [] c h (mv_Rd (0, mv_bo (hasv x v)) c h) := by
  intro m
  induction m with
  | zero =>
    intro i ⟨hi, hf⟩
    have ox := hl.ok
    obtain ⟨n1, n2, n3, n4⟩ := xn_b hl.ok
    have xf := hl.n
    have xt := hl.tag
    have hK : (mv_m 94).1 = kc_Counts_hasValue := rfl
    refine e_step (pc' := 3) hK rfl rfl rfl ?_
    refine e_step (pc' := 4) hK rfl rfl rfl ?_
    refine e_getI (ci := 1) (k := 6) (pc' := 7) hK rfl (by simp (disch := omega) only [xt, xf]) rfl rfl (by decide) (by decide) rfl ?_
    try simp (disch := omega) only [xt, xf]
    refine e_icmp (t := 27) (pc' := 10) hK rfl (by first | omega | (have q := xv_b ox (i : Int); omega)) (by first | omega | (have q := xv_b ox (i : Int); omega)) (by decide) rfl (fun hb7 => ?_) (fun hb7 => ?_)
    · replace hb7 := cq_ge.1.mp hb7
      refine e_step (pc' := 28) hK rfl rfl rfl ?_
      refine e_ret hK rfl rfl (by first | rfl | (simp only [mv_ret]; rw [if_pos]; exact Or.inr ⟨rfl, by omega⟩)) ?_
      refine ⟨?_, rfl, rfl⟩
      congr 1
      unfold hasv
      rw [show (xn x).toNat = i from by omega, hf]
      rfl
    · replace hb7 := cq_ge.2.mp hb7
      exfalso; first | omega | exact absurd trivial (by assumption) | (first | omega | (have q := xv_b ox (i : Int); omega))
  | succ m ih =>
    intro i ⟨hi, hf⟩
    have ox := hl.ok
    obtain ⟨n1, n2, n3, n4⟩ := xn_b hl.ok
    have xf := hl.n
    have xt := hl.tag
    have hK : (mv_m 94).1 = kc_Counts_hasValue := rfl
    refine e_step (pc' := 3) hK rfl rfl rfl ?_
    refine e_step (pc' := 4) hK rfl rfl rfl ?_
    refine e_getI (ci := 1) (k := 6) (pc' := 7) hK rfl (by simp (disch := omega) only [xt, xf]) rfl rfl (by decide) (by decide) rfl ?_
    try simp (disch := omega) only [xt, xf]
    refine e_icmp (t := 27) (pc' := 10) hK rfl (by first | omega | (have q := xv_b ox (i : Int); omega)) (by first | omega | (have q := xv_b ox (i : Int); omega)) (by decide) rfl (fun hb7 => ?_) (fun hb7 => ?_)
    · replace hb7 := cq_ge.1.mp hb7
      exfalso; first | omega | exact absurd trivial (by assumption) | (first | omega | (have q := xv_b ox (i : Int); omega))
    · replace hb7 := cq_ge.2.mp hb7
      refine e_step (pc' := 11) hK rfl rfl rfl ?_
      refine e_step (pc' := 12) hK rfl rfl rfl ?_
      refine e_cRV2 (z := 11) (pc' := 15) hK rfl rfl (by first | (simp (disch := omega) only [xt, xf]; rfl) | (show _ = 2; assumption) | (show _ = 1; assumption) | (show _ = 0; assumption) | (show _ = 3; assumption) | (show _ = 4; assumption)) rfl (Nat.le_of_ble_eq_true rfl) (Nat.le_of_ble_eq_true rfl) (x_valueAt hl _ (by omega)) (by decide) rfl ?_
      try simp (disch := omega) only [xt, xf]
      refine e_step (pc' := 16) hK rfl rfl rfl ?_
      refine e_icmp (t := 21) (pc' := 19) hK rfl (by first | omega | (have q := xv_b ox (i : Int); omega)) (by first | omega | (have q := xv_b ox (i : Int); omega)) (by decide) rfl (fun hb16 => ?_) (fun hb16 => ?_)
      · replace hb16 := cq_ne.1.mp hb16
        refine e_step (pc' := 24) hK rfl rfl rfl ?_
        try simp only [List.set_cons_zero, List.set_cons_succ]
        refine e_goto (t := 2) hK rfl (by decide) ?_
        exact ih (i + 1) ⟨by omega, lo_s hf (decide_eq_false hb16)⟩
      · replace hb16 := cq_ne.2.mp hb16
        refine e_step (pc' := 20) hK rfl rfl rfl ?_
        refine e_ret hK rfl rfl (by first | rfl | (simp only [mv_ret]; rw [if_pos]; exact Or.inr ⟨rfl, by omega⟩)) ?_
        refine ⟨?_, rfl, rfl⟩
        congr 1
        unfold hasv
        rw [lo_t (i := i) (decide_eq_true hb16) (by omega)]
        rfl
set_option maxRecDepth 10000 in
theorem c_hasv {l : Int} {x : xt} (hl : LnX h l x) (v : Int) (hv : mv_i v) : mv_Cl sc q_Counts_hasValue [(2, l), (0, v)] c h (mv_Rd (0, mv_bo (hasv x v)) c h) := by
  have ox := hl.ok
  obtain ⟨n1, n2, n3, n4⟩ := xn_b hl.ok
  have xf := hl.n
  have xt := hl.tag
  show mv_Ev sc 94 0 [(2, l), (0, v), (5, 0)] [] c h _
  have hK : (mv_m 94).1 = kc_Counts_hasValue := rfl
  refine e_step (pc' := 1) hK rfl rfl rfl ?_
  refine e_step (pc' := 2) hK rfl rfl rfl ?_
  try simp only [List.set_cons_zero, List.set_cons_succ]
  exact c_hasv1 hl v hv (xn x).toNat 0 ⟨by omega, rfl⟩
set_option maxRecDepth 10000 in
theorem c_withv1 {s : Int} {A : lg} (hs : StA h s A) (v : Int) (hv : mv_i v) : ∀ (m : Nat) (i : Nat), i + m = gn A → mv_Ev sc 93 4 [(2, s), (0, v), (0, lc (fun i => hasv (gl A i) v) i), (0, (i : Int))] [] c h (mv_Rd (0, clv A v) c h) := by
  intro m
  induction m with
  | zero =>
    intro i hi
    have hs0 := hs
    obtain ⟨⟨s1, s2, t0, f0, f1, f2, f3, f4, ⟨t1, l1⟩, ⟨t2, l2⟩, ⟨t3, l3⟩, ⟨t4, l4⟩, hl0⟩, hB, fn, fT, gL', gP', gS', gO'⟩ := hs
    have b1 := hB.1
    have b2 := hB.2.1
    have hK : (mv_m 93).1 = kc_Counts_linesWithValue := rfl
    refine e_step (pc' := 5) hK rfl rfl rfl ?_
    refine e_step (pc' := 6) hK rfl rfl rfl ?_
    refine e_getI (ci := 2) (k := 5) (pc' := 9) hK rfl (by simp (disch := omega) only [t0, f0, f1, f2, f3, f4, t1, l1, t2, l2, t3, l3, t4, l4, fn, fT, gP']) rfl rfl (by decide) (by decide) rfl ?_
    try simp (disch := omega) only [t0, f0, f1, f2, f3, f4, t1, l1, t2, l2, t3, l3, t4, l4, fn, fT, gP']
    refine e_icmp (t := 33) (pc' := 12) hK rfl (by first | omega | exact bo_i _) (by first | omega | exact bo_i _) (by decide) rfl (fun hb9 => ?_) (fun hb9 => ?_)
    · replace hb9 := cq_ge.1.mp hb9
      try simp only [bo_0, Bool.not_eq_false] at hb9
      refine e_step (pc' := 34) hK rfl rfl rfl ?_
      refine e_ret hK rfl rfl rfl ?_
      refine ⟨?_, rfl, rfl⟩
      congr 1
      unfold clv
      rw [show gn A = i from by omega]
    · replace hb9 := cq_ge.2.mp hb9
      try simp only [bo_0, Bool.not_eq_false] at hb9
      exfalso; first | omega | exact absurd trivial (by assumption) | (first | omega | exact bo_i _)
  | succ m ih =>
    intro i hi
    have hs0 := hs
    obtain ⟨⟨s1, s2, t0, f0, f1, f2, f3, f4, ⟨t1, l1⟩, ⟨t2, l2⟩, ⟨t3, l3⟩, ⟨t4, l4⟩, hl0⟩, hB, fn, fT, gL', gP', gS', gO'⟩ := hs
    have b1 := hB.1
    have b2 := hB.2.1
    have hK : (mv_m 93).1 = kc_Counts_linesWithValue := rfl
    refine e_step (pc' := 5) hK rfl rfl rfl ?_
    refine e_step (pc' := 6) hK rfl rfl rfl ?_
    refine e_getI (ci := 2) (k := 5) (pc' := 9) hK rfl (by simp (disch := omega) only [t0, f0, f1, f2, f3, f4, t1, l1, t2, l2, t3, l3, t4, l4, fn, fT, gP']) rfl rfl (by decide) (by decide) rfl ?_
    try simp (disch := omega) only [t0, f0, f1, f2, f3, f4, t1, l1, t2, l2, t3, l3, t4, l4, fn, fT, gP']
    refine e_icmp (t := 33) (pc' := 12) hK rfl (by first | omega | exact bo_i _) (by first | omega | exact bo_i _) (by decide) rfl (fun hb9 => ?_) (fun hb9 => ?_)
    · replace hb9 := cq_ge.1.mp hb9
      try simp only [bo_0, Bool.not_eq_false] at hb9
      exfalso; first | omega | exact absurd trivial (by assumption) | (first | omega | exact bo_i _)
    · replace hb9 := cq_ge.2.mp hb9
      try simp only [bo_0, Bool.not_eq_false] at hb9
      refine e_step (pc' := 13) hK rfl rfl rfl ?_
      refine e_step (pc' := 14) hK rfl rfl rfl ?_
      refine e_cRV2 (z := 26) (pc' := 17) hK rfl rfl (by first | (simp (disch := omega) only [t0, f0, f1, f2, f3, f4, t1, l1, t2, l2, t3, l3, t4, l4, fn, fT, gP']; rfl) | (show _ = 2; assumption) | (show _ = 1; assumption) | (show _ = 0; assumption) | (show _ = 3; assumption) | (show _ = 4; assumption)) rfl (Nat.le_of_ble_eq_true rfl) (Nat.le_of_ble_eq_true rfl) (c_lineAt hs0 _ (by omega)) (by decide) rfl ?_
      try simp (disch := omega) only [t0, f0, f1, f2, f3, f4, t1, l1, t2, l2, t3, l3, t4, l4, fn, fT, gP']
      refine e_step (pc' := 18) hK rfl rfl rfl ?_
      refine e_cRS2 (z := 94) (pc' := 21) hK rfl rfl rfl (Nat.le_of_ble_eq_true rfl) (Nat.le_of_ble_eq_true rfl) (c_hasv (hs0.lr _) v hv) (by decide) rfl ?_
      try simp (disch := omega) only [t0, f0, f1, f2, f3, f4, t1, l1, t2, l2, t3, l3, t4, l4, fn, fT, gP']
      refine e_if (t := 27) (pc' := 24) hK rfl (by first | omega | exact bo_i _) (by decide) rfl (fun hb21 => ?_) (fun hb21 => ?_)
      · replace hb21 := cq_eq.1.mp hb21
        try simp only [bo_0, Bool.not_eq_false] at hb21
        refine e_step (pc' := 30) hK rfl rfl rfl ?_
        try simp only [List.set_cons_zero, List.set_cons_succ]
        refine e_goto (t := 4) hK rfl (by decide) ?_
        have q9 := ih (i + 1) (by omega)
        rw [lc_f (i := i) hb21] at q9
        exact q9
      · replace hb21 := cq_eq.2.mp hb21
        try simp only [bo_0, Bool.not_eq_false] at hb21
        refine e_step (pc' := 27) hK rfl rfl rfl ?_
        try simp only [List.set_cons_zero, List.set_cons_succ]
        refine e_step (pc' := 30) hK rfl rfl rfl ?_
        try simp only [List.set_cons_zero, List.set_cons_succ]
        refine e_goto (t := 4) hK rfl (by decide) ?_
        have q9 := ih (i + 1) (by omega)
        rw [lc_t (i := i) hb21] at q9
        exact q9
set_option maxRecDepth 10000 in
theorem c_withv {s : Int} {A : lg} (hs : StA h s A) (v : Int) (hv : mv_i v) : mv_Cl sc q_Counts_linesWithValue [(2, s), (0, v)] c h (mv_Rd (0, clv A v) c h) := by
  have hs0 := hs
  obtain ⟨⟨s1, s2, t0, f0, f1, f2, f3, f4, ⟨t1, l1⟩, ⟨t2, l2⟩, ⟨t3, l3⟩, ⟨t4, l4⟩, hl0⟩, hB, fn, fT, gL', gP', gS', gO'⟩ := hs
  have b1 := hB.1
  have b2 := hB.2.1
  show mv_Ev sc 93 0 [(2, s), (0, v), (5, 0), (5, 0)] [] c h _
  have hK : (mv_m 93).1 = kc_Counts_linesWithValue := rfl
  refine e_step (pc' := 1) hK rfl rfl rfl ?_
  refine e_step (pc' := 2) hK rfl rfl rfl ?_
  try simp only [List.set_cons_zero, List.set_cons_succ]
  refine e_step (pc' := 3) hK rfl rfl rfl ?_
  refine e_step (pc' := 4) hK rfl rfl rfl ?_
  try simp only [List.set_cons_zero, List.set_cons_succ]
  exact c_withv1 hs0 v hv (gn A) 0 (by omega)
set_option maxRecDepth 10000 in
theorem c_things1 {s : Int} {A : lg} (hs : StA h s A) (t q : Int) (ht : mv_i t) (hq : mv_i q) (hsl : csl1 A t q = true) : ∀ (m : Nat) (i : Nat), i + m = gn A → mv_Ev sc 91 19 [(2, s), (0, t), (0, q), (0, lc (fun i => decide (gP A i = t) && !cz A (gl A i) t q i) i), (0, (i : Int))] [] c h (mv_Rd (0, cdt A t q) c h) := by
  intro m
  induction m with
  | zero =>
    intro i hi
    have hs0 := hs
    obtain ⟨⟨s1, s2, t0, f0, f1, f2, f3, f4, ⟨t1, l1⟩, ⟨t2, l2⟩, ⟨t3, l3⟩, ⟨t4, l4⟩, hl0⟩, hB, fn, fT, gL', gP', gS', gO'⟩ := hs
    have b1 := hB.1
    have b2 := hB.2.1
    have hK : (mv_m 91).1 = kc_Counts_differentThings := rfl
    refine e_step (pc' := 21) hK rfl rfl rfl ?_
    refine e_step (pc' := 22) hK rfl rfl rfl ?_
    refine e_getI (ci := 2) (k := 5) (pc' := 25) hK rfl (by simp (disch := omega) only [t0, f0, f1, f2, f3, f4, t1, l1, t2, l2, t3, l3, t4, l4, fn, fT, gP']) rfl rfl (by decide) (by decide) rfl ?_
    try simp (disch := omega) only [t0, f0, f1, f2, f3, f4, t1, l1, t2, l2, t3, l3, t4, l4, fn, fT, gP']
    refine e_icmp (t := 64) (pc' := 28) hK rfl (by first | omega | exact bo_i _ | (have q1 := gt_b hB (i : Int); omega) | (have q1 := hB.2.2.1 (i : Int) (by omega) (by omega); omega)) (by first | omega | exact bo_i _ | (have q1 := gt_b hB (i : Int); omega) | (have q1 := hB.2.2.1 (i : Int) (by omega) (by omega); omega)) (by decide) rfl (fun hb25 => ?_) (fun hb25 => ?_)
    · replace hb25 := cq_ge.1.mp hb25
      try simp only [bo_0, Bool.not_eq_false] at hb25
      refine e_step (pc' := 65) hK rfl rfl rfl ?_
      refine e_ret hK rfl rfl rfl ?_
      refine ⟨?_, rfl, rfl⟩
      congr 1
      unfold cdt
      rw [if_pos hsl, show gn A = i from by omega]
    · replace hb25 := cq_ge.2.mp hb25
      try simp only [bo_0, Bool.not_eq_false] at hb25
      exfalso; first | omega | exact absurd trivial (by assumption) | (first | omega | exact bo_i _ | (have q1 := gt_b hB (i : Int); omega) | (have q1 := hB.2.2.1 (i : Int) (by omega) (by omega); omega))
  | succ m ih =>
    intro i hi
    have hs0 := hs
    obtain ⟨⟨s1, s2, t0, f0, f1, f2, f3, f4, ⟨t1, l1⟩, ⟨t2, l2⟩, ⟨t3, l3⟩, ⟨t4, l4⟩, hl0⟩, hB, fn, fT, gL', gP', gS', gO'⟩ := hs
    have b1 := hB.1
    have b2 := hB.2.1
    have hK : (mv_m 91).1 = kc_Counts_differentThings := rfl
    refine e_step (pc' := 21) hK rfl rfl rfl ?_
    refine e_step (pc' := 22) hK rfl rfl rfl ?_
    refine e_getI (ci := 2) (k := 5) (pc' := 25) hK rfl (by simp (disch := omega) only [t0, f0, f1, f2, f3, f4, t1, l1, t2, l2, t3, l3, t4, l4, fn, fT, gP']) rfl rfl (by decide) (by decide) rfl ?_
    try simp (disch := omega) only [t0, f0, f1, f2, f3, f4, t1, l1, t2, l2, t3, l3, t4, l4, fn, fT, gP']
    refine e_icmp (t := 64) (pc' := 28) hK rfl (by first | omega | exact bo_i _ | (have q1 := gt_b hB (i : Int); omega) | (have q1 := hB.2.2.1 (i : Int) (by omega) (by omega); omega)) (by first | omega | exact bo_i _ | (have q1 := gt_b hB (i : Int); omega) | (have q1 := hB.2.2.1 (i : Int) (by omega) (by omega); omega)) (by decide) rfl (fun hb25 => ?_) (fun hb25 => ?_)
    · replace hb25 := cq_ge.1.mp hb25
      try simp only [bo_0, Bool.not_eq_false] at hb25
      exfalso; first | omega | exact absurd trivial (by assumption) | (first | omega | exact bo_i _ | (have q1 := gt_b hB (i : Int); omega) | (have q1 := hB.2.2.1 (i : Int) (by omega) (by omega); omega))
    · replace hb25 := cq_ge.2.mp hb25
      try simp only [bo_0, Bool.not_eq_false] at hb25
      refine e_step (pc' := 29) hK rfl rfl rfl ?_
      refine e_step (pc' := 31) hK rfl rfl rfl ?_
      refine e_cRV2 (z := 27) (pc' := 34) hK rfl rfl (by first | (simp (disch := omega) only [t0, f0, f1, f2, f3, f4, t1, l1, t2, l2, t3, l3, t4, l4, fn, fT, gP']; rfl) | (show _ = 2; assumption) | (show _ = 1; assumption) | (show _ = 0; assumption) | (show _ = 3; assumption) | (show _ = 4; assumption)) rfl (Nat.le_of_ble_eq_true rfl) (Nat.le_of_ble_eq_true rfl) (c_templateAt hs0 _ (by omega)) (by decide) rfl ?_
      try simp (disch := omega) only [t0, f0, f1, f2, f3, f4, t1, l1, t2, l2, t3, l3, t4, l4, fn, fT, gP']
      rw [show gt A (i : Int) = gP A (i : Int) from if_pos (by omega)]
      refine e_step (pc' := 35) hK rfl rfl rfl ?_
      refine e_icmp (t := 58) (pc' := 38) hK rfl (by first | omega | exact bo_i _ | (have q1 := gt_b hB (i : Int); omega) | (have q1 := hB.2.2.1 (i : Int) (by omega) (by omega); omega)) (by first | omega | exact bo_i _ | (have q1 := gt_b hB (i : Int); omega) | (have q1 := hB.2.2.1 (i : Int) (by omega) (by omega); omega)) (by decide) rfl (fun hb35 => ?_) (fun hb35 => ?_)
      · replace hb35 := cq_ne.1.mp hb35
        try simp only [bo_0, Bool.not_eq_false] at hb35
        refine e_step (pc' := 61) hK rfl rfl rfl ?_
        try simp only [List.set_cons_zero, List.set_cons_succ]
        refine e_goto (t := 19) hK rfl (by decide) ?_
        have q9 := ih (i + 1) (by omega)
        rw [lc_f (i := i) (by rw [decide_eq_false hb35, Bool.false_and])] at q9
        exact q9
      · replace hb35 := cq_ne.2.mp hb35
        try simp only [bo_0, Bool.not_eq_false] at hb35
        refine e_step (pc' := 39) hK rfl rfl rfl ?_
        refine e_step (pc' := 40) hK rfl rfl rfl ?_
        refine e_step (pc' := 42) hK rfl rfl rfl ?_
        refine e_cRV2 (z := 26) (pc' := 45) hK rfl rfl (by first | (simp (disch := omega) only [t0, f0, f1, f2, f3, f4, t1, l1, t2, l2, t3, l3, t4, l4, fn, fT, gP']; rfl) | (show _ = 2; assumption) | (show _ = 1; assumption) | (show _ = 0; assumption) | (show _ = 3; assumption) | (show _ = 4; assumption)) rfl (Nat.le_of_ble_eq_true rfl) (Nat.le_of_ble_eq_true rfl) (c_lineAt hs0 _ (by omega)) (by decide) rfl ?_
        try simp (disch := omega) only [t0, f0, f1, f2, f3, f4, t1, l1, t2, l2, t3, l3, t4, l4, fn, fT, gP']
        refine e_step (pc' := 46) hK rfl rfl rfl ?_
        refine e_step (pc' := 47) hK rfl rfl rfl ?_
        refine e_step (pc' := 49) hK rfl rfl rfl ?_
        refine e_cRS5 (z := 84) (pc' := 52) hK rfl rfl rfl (Nat.le_of_ble_eq_true rfl) (Nat.le_of_ble_eq_true rfl) (c_seen hs0 (hs0.lr _) t q _ ht hq (by omega)) (by decide) rfl ?_
        try simp (disch := omega) only [t0, f0, f1, f2, f3, f4, t1, l1, t2, l2, t3, l3, t4, l4, fn, fT, gP']
        refine e_if (t := 58) (pc' := 55) hK rfl (by first | omega | exact bo_i _ | (have q1 := gt_b hB (i : Int); omega) | (have q1 := hB.2.2.1 (i : Int) (by omega) (by omega); omega)) (by decide) rfl (fun hb52 => ?_) (fun hb52 => ?_)
        · replace hb52 := cq_ne.1.mp hb52
          try simp only [bo_0, Bool.not_eq_false] at hb52
          refine e_step (pc' := 61) hK rfl rfl rfl ?_
          try simp only [List.set_cons_zero, List.set_cons_succ]
          refine e_goto (t := 19) hK rfl (by decide) ?_
          have q9 := ih (i + 1) (by omega)
          rw [lc_f (i := i) (by rw [hb52]; exact Bool.and_false _)] at q9
          exact q9
        · replace hb52 := cq_ne.2.mp hb52
          try simp only [bo_0, Bool.not_eq_false] at hb52
          refine e_step (pc' := 58) hK rfl rfl rfl ?_
          try simp only [List.set_cons_zero, List.set_cons_succ]
          refine e_step (pc' := 61) hK rfl rfl rfl ?_
          try simp only [List.set_cons_zero, List.set_cons_succ]
          refine e_goto (t := 19) hK rfl (by decide) ?_
          have q9 := ih (i + 1) (by omega)
          rw [lc_t (i := i) (by rw [decide_eq_true hb35, hb52]; rfl)] at q9
          exact q9
set_option maxRecDepth 10000 in
theorem c_things {s : Int} {A : lg} (hs : StA h s A) (t q : Int) (ht : mv_i t) (hq : mv_i q) : mv_Cl sc q_Counts_differentThings [(2, s), (0, t), (0, q)] c h (mv_Rd (0, cdt A t q) c h) := by
  have hs0 := hs
  obtain ⟨⟨s1, s2, t0, f0, f1, f2, f3, f4, ⟨t1, l1⟩, ⟨t2, l2⟩, ⟨t3, l3⟩, ⟨t4, l4⟩, hl0⟩, hB, fn, fT, gL', gP', gS', gO'⟩ := hs
  have b1 := hB.1
  have b2 := hB.2.1
  show mv_Ev sc 91 0 [(2, s), (0, t), (0, q), (5, 0), (5, 0)] [] c h _
  have hK : (mv_m 91).1 = kc_Counts_differentThings := rfl
  refine e_step (pc' := 1) hK rfl rfl rfl ?_
  refine e_step (pc' := 2) hK rfl rfl rfl ?_
  refine e_step (pc' := 3) hK rfl rfl rfl ?_
  refine e_cRV3 (z := 18) (pc' := 6) hK rfl rfl (by first | (simp (disch := omega) only [t0, f0, f1, f2, f3, f4, t1, l1, t2, l2, t3, l3, t4, l4, fn, fT, gP']; rfl) | (show _ = 2; assumption) | (show _ = 1; assumption) | (show _ = 0; assumption) | (show _ = 3; assumption) | (show _ = 4; assumption)) rfl (Nat.le_of_ble_eq_true rfl) (Nat.le_of_ble_eq_true rfl) (c_kindIn hs0 t q ht hq) (by decide) rfl ?_
  try simp (disch := omega) only [t0, f0, f1, f2, f3, f4, t1, l1, t2, l2, t3, l3, t4, l4, fn, fT, gP']
  refine e_cRS1 (z := 45) (pc' := 9) hK rfl rfl rfl (Nat.le_of_ble_eq_true rfl) (Nat.le_of_ble_eq_true rfl) (c_isSlot _ (by have q1 := gk_b hB t q; omega)) (by decide) rfl ?_
  try simp (disch := omega) only [t0, f0, f1, f2, f3, f4, t1, l1, t2, l2, t3, l3, t4, l4, fn, fT, gP']
  refine e_if (t := 14) (pc' := 12) hK rfl (by first | omega | exact bo_i _) (by decide) rfl (fun hb9 => ?_) (fun hb9 => ?_)
  · replace hb9 := cq_ne.1.mp hb9
    try simp only [bo_0, Bool.not_eq_false] at hb9
    refine e_step (pc' := 15) hK rfl rfl rfl ?_
    refine e_step (pc' := 16) hK rfl rfl rfl ?_
    try simp only [List.set_cons_zero, List.set_cons_succ]
    refine e_step (pc' := 17) hK rfl rfl rfl ?_
    refine e_step (pc' := 19) hK rfl rfl rfl ?_
    try simp only [List.set_cons_zero, List.set_cons_succ]
    exact c_things1 hs0 t q ht hq hb9 (gn A) 0 (by omega)
  · replace hb9 := cq_ne.2.mp hb9
    try simp only [bo_0, Bool.not_eq_false] at hb9
    refine e_step (pc' := 13) hK rfl rfl rfl ?_
    refine e_ret hK rfl rfl rfl ?_
    refine ⟨?_, rfl, rfl⟩
    congr 1
    unfold cdt
    rw [if_neg (by unfold csl1; rw [hb9]; decide)]
set_option maxRecDepth 10000 in
theorem c_rise1 {s : Int} {A : lg} (hs : StA h s A) (t q : Int) (ht : mv_i t) (hq : mv_i q) : ∀ (m : Nat) (n st la : Int) (a7 : mv_V), m ≤ gn A ∧ 0 ≤ n ∧ n + m ≤ 24 ∧ -3000000 ≤ st ∧ st ≤ 3000000 ∧ -1000000 ≤ la ∧ la ≤ 1000000 ∧ crs A t q (gn A) 0 0 0 = crs A t q m n st la → mv_Ev sc 92 16 [(2, s), (0, t), (0, q), (0, n), (0, st), (0, la), (0, (m : Int) - 1), a7] [] c h (mv_Rd (0, crs A t q (gn A) 0 0 0) c h) := by
  intro m
  induction m with
  | zero =>
    intro n st la a7 ⟨hi, hn0, hn1, hs1, hs2, hl1, hl2, he⟩
    have hs0 := hs
    obtain ⟨⟨s1, s2, t0, f0, f1, f2, f3, f4, ⟨t1, l1⟩, ⟨t2, l2⟩, ⟨t3, l3⟩, ⟨t4, l4⟩, hl0⟩, hB, fn, fT, gL', gP', gS', gO'⟩ := hs
    have b1 := hB.1
    have b2 := hB.2.1
    have qtg := fun (i : Int) => (hs0.lr i).tag
    have qfn := fun (i : Int) => (hs0.lr i).n
    have qln := fun (i : Int) => (hs0.lr i).len
    have hK : (mv_m 92).1 = kc_Counts_risingLines := rfl
    refine e_step (pc' := 18) hK rfl rfl rfl ?_
    refine e_if (t := 88) (pc' := 21) hK rfl (by first | omega | (have q1 := gt_b hB (((m + 1 : Nat) : Int) - 1); have q2 := xv_b (gl_ok hB (((m + 1 : Nat) : Int) - 1)) q; omega)) (by decide) rfl (fun hb18 => ?_) (fun hb18 => ?_)
    · replace hb18 := cq_lt.1.mp hb18
      refine e_step (pc' := 89) hK rfl rfl rfl ?_
      refine e_ret hK rfl rfl rfl ?_
      refine ⟨?_, rfl, rfl⟩
      congr 1
      rw [he]; rfl
    · replace hb18 := cq_lt.2.mp hb18
      exfalso; first | omega | exact absurd trivial (by assumption) | (first | omega | (have q1 := gt_b hB (((m + 1 : Nat) : Int) - 1); have q2 := xv_b (gl_ok hB (((m + 1 : Nat) : Int) - 1)) q; omega))
  | succ m ih =>
    intro n st la a7 ⟨hi, hn0, hn1, hs1, hs2, hl1, hl2, he⟩
    have hs0 := hs
    obtain ⟨⟨s1, s2, t0, f0, f1, f2, f3, f4, ⟨t1, l1⟩, ⟨t2, l2⟩, ⟨t3, l3⟩, ⟨t4, l4⟩, hl0⟩, hB, fn, fT, gL', gP', gS', gO'⟩ := hs
    have b1 := hB.1
    have b2 := hB.2.1
    have qtg := fun (i : Int) => (hs0.lr i).tag
    have qfn := fun (i : Int) => (hs0.lr i).n
    have qln := fun (i : Int) => (hs0.lr i).len
    have hK : (mv_m 92).1 = kc_Counts_risingLines := rfl
    refine e_step (pc' := 18) hK rfl rfl rfl ?_
    refine e_if (t := 88) (pc' := 21) hK rfl (by first | omega | (have q1 := gt_b hB (((m + 1 : Nat) : Int) - 1); have q2 := xv_b (gl_ok hB (((m + 1 : Nat) : Int) - 1)) q; omega)) (by decide) rfl (fun hb18 => ?_) (fun hb18 => ?_)
    · replace hb18 := cq_lt.1.mp hb18
      exfalso; first | omega | exact absurd trivial (by assumption) | (first | omega | (have q1 := gt_b hB (((m + 1 : Nat) : Int) - 1); have q2 := xv_b (gl_ok hB (((m + 1 : Nat) : Int) - 1)) q; omega))
    · replace hb18 := cq_lt.2.mp hb18
      refine e_step (pc' := 22) hK rfl rfl rfl ?_
      refine e_step (pc' := 24) hK rfl rfl rfl ?_
      refine e_cRV2 (z := 27) (pc' := 27) hK rfl rfl (by first | (simp (disch := omega) only [t0, f0, f1, f2, f3, f4, t1, l1, t2, l2, t3, l3, t4, l4, fn, fT, gP', qtg]; rfl) | (show _ = 2; assumption) | (show _ = 1; assumption) | (show _ = 0; assumption) | (show _ = 3; assumption) | (show _ = 4; assumption)) rfl (Nat.le_of_ble_eq_true rfl) (Nat.le_of_ble_eq_true rfl) (c_templateAt hs0 _ (by omega)) (by decide) rfl ?_
      try simp (disch := omega) only [t0, f0, f1, f2, f3, f4, t1, l1, t2, l2, t3, l3, t4, l4, fn, fT, gP', qtg]
      refine e_step (pc' := 28) hK rfl rfl rfl ?_
      refine e_icmp (t := 34) (pc' := 31) hK rfl (by first | omega | (have q1 := gt_b hB (((m + 1 : Nat) : Int) - 1); have q2 := xv_b (gl_ok hB (((m + 1 : Nat) : Int) - 1)) q; omega)) (by first | omega | (have q1 := gt_b hB (((m + 1 : Nat) : Int) - 1); have q2 := xv_b (gl_ok hB (((m + 1 : Nat) : Int) - 1)) q; omega)) (by decide) rfl (fun hb28 => ?_) (fun hb28 => ?_)
      · replace hb28 := cq_eq.1.mp hb28
        refine e_step (pc' := 35) hK rfl rfl rfl ?_
        refine e_step (pc' := 37) hK rfl rfl rfl ?_
        refine e_cRV2 (z := 26) (pc' := 40) hK rfl rfl (by first | (simp (disch := omega) only [t0, f0, f1, f2, f3, f4, t1, l1, t2, l2, t3, l3, t4, l4, fn, fT, gP', qtg]; rfl) | (show _ = 2; assumption) | (show _ = 1; assumption) | (show _ = 0; assumption) | (show _ = 3; assumption) | (show _ = 4; assumption)) rfl (Nat.le_of_ble_eq_true rfl) (Nat.le_of_ble_eq_true rfl) (c_lineAt hs0 _ (by omega)) (by decide) rfl ?_
        try simp (disch := omega) only [t0, f0, f1, f2, f3, f4, t1, l1, t2, l2, t3, l3, t4, l4, fn, fT, gP', qtg]
        refine e_step (pc' := 41) hK rfl rfl rfl ?_
        refine e_cRV2 (z := 11) (pc' := 44) hK rfl rfl (by first | (simp (disch := omega) only [t0, f0, f1, f2, f3, f4, t1, l1, t2, l2, t3, l3, t4, l4, fn, fT, gP', qtg]; rfl) | (show _ = 2; assumption) | (show _ = 1; assumption) | (show _ = 0; assumption) | (show _ = 3; assumption) | (show _ = 4; assumption)) rfl (Nat.le_of_ble_eq_true rfl) (Nat.le_of_ble_eq_true rfl) (x_valueAt (hs0.lr _) _ hq) (by decide) rfl ?_
        try simp (disch := omega) only [t0, f0, f1, f2, f3, f4, t1, l1, t2, l2, t3, l3, t4, l4, fn, fT, gP', qtg]
        refine e_step (pc' := 46) hK rfl rfl rfl ?_
        try simp only [List.set_cons_zero, List.set_cons_succ]
        refine e_step (pc' := 47) hK rfl rfl rfl ?_
        refine e_step (pc' := 48) hK rfl rfl rfl ?_
        refine e_icmp (t := 58) (pc' := 51) hK rfl (by first | omega | (have q1 := gt_b hB (((m + 1 : Nat) : Int) - 1); have q2 := xv_b (gl_ok hB (((m + 1 : Nat) : Int) - 1)) q; omega)) (by first | omega | (have q1 := gt_b hB (((m + 1 : Nat) : Int) - 1); have q2 := xv_b (gl_ok hB (((m + 1 : Nat) : Int) - 1)) q; omega)) (by decide) rfl (fun hb48 => ?_) (fun hb48 => ?_)
        · replace hb48 := cq_ne.1.mp hb48
          refine e_step (pc' := 59) hK rfl rfl rfl ?_
          refine e_step (pc' := 60) hK rfl rfl rfl ?_
          refine e_icmp (t := 75) (pc' := 63) hK rfl (by first | omega | (have q1 := gt_b hB (((m + 1 : Nat) : Int) - 1); have q2 := xv_b (gl_ok hB (((m + 1 : Nat) : Int) - 1)) q; omega)) (by first | omega | (have q1 := gt_b hB (((m + 1 : Nat) : Int) - 1); have q2 := xv_b (gl_ok hB (((m + 1 : Nat) : Int) - 1)) q; omega)) (by decide) rfl (fun hb60 => ?_) (fun hb60 => ?_)
          · replace hb60 := cq_le.1.mp hb60
            refine e_step (pc' := 77) hK rfl rfl rfl ?_
            refine e_step (pc' := 79) hK rfl rfl rfl ?_
            try simp only [List.set_cons_zero, List.set_cons_succ]
            refine e_step (pc' := 82) hK rfl rfl rfl ?_
            try simp only [List.set_cons_zero, List.set_cons_succ]
            refine e_step (pc' := 85) hK rfl rfl rfl ?_
            try simp only [List.set_cons_zero, List.set_cons_succ]
            refine e_goto (t := 16) hK rfl (by decide) ?_
            have e1 : (((m + 1 : Nat) : Int) - 1) = (m : Int) := by omega
            have q2 := xv_b (gl_ok hB (((m + 1 : Nat) : Int) - 1)) q
            rw [e1] at hb28
            rw [e1]
            rw [e1] at q2
            exact ih _ _ _ _ ⟨by omega, by omega, by omega, by omega, by omega, by omega, by omega, by rw [he]; show (if _ then _ else _) = _; rw [if_pos hb28, if_neg (by first | omega | (intro q8; rw [if_neg (by omega)] at q8; omega) | (intro q8; rw [if_pos (by omega)] at q8; omega))]; first | (rw [if_pos (by omega)]; done) | (rw [if_neg (by omega)]; done)⟩
          · replace hb60 := cq_le.2.mp hb60
            refine e_step (pc' := 65) hK rfl rfl rfl ?_
            refine e_step (pc' := 67) hK rfl rfl rfl ?_
            refine e_step (pc' := 68) hK rfl rfl rfl ?_
            refine e_step (pc' := 70) hK rfl rfl rfl ?_
            refine e_icmp (t := 75) (pc' := 73) hK rfl (by first | omega | (have q1 := gt_b hB (((m + 1 : Nat) : Int) - 1); have q2 := xv_b (gl_ok hB (((m + 1 : Nat) : Int) - 1)) q; omega)) (by first | omega | (have q1 := gt_b hB (((m + 1 : Nat) : Int) - 1); have q2 := xv_b (gl_ok hB (((m + 1 : Nat) : Int) - 1)) q; omega)) (by decide) rfl (fun hb70 => ?_) (fun hb70 => ?_)
            · replace hb70 := cq_eq.1.mp hb70
              refine e_step (pc' := 77) hK rfl rfl rfl ?_
              refine e_step (pc' := 79) hK rfl rfl rfl ?_
              try simp only [List.set_cons_zero, List.set_cons_succ]
              refine e_step (pc' := 82) hK rfl rfl rfl ?_
              try simp only [List.set_cons_zero, List.set_cons_succ]
              refine e_step (pc' := 85) hK rfl rfl rfl ?_
              try simp only [List.set_cons_zero, List.set_cons_succ]
              refine e_goto (t := 16) hK rfl (by decide) ?_
              have e1 : (((m + 1 : Nat) : Int) - 1) = (m : Int) := by omega
              have q2 := xv_b (gl_ok hB (((m + 1 : Nat) : Int) - 1)) q
              rw [e1] at hb28 hb70
              rw [e1]
              rw [e1] at q2
              exact ih _ _ _ _ ⟨by omega, by omega, by omega, by omega, by omega, by omega, by omega, by rw [he]; show (if _ then _ else _) = _; rw [if_pos hb28, if_neg (by first | omega | (intro q8; rw [if_neg (by omega)] at q8; omega) | (intro q8; rw [if_pos (by omega)] at q8; omega))]; first | (rw [if_pos (by omega)]; done) | (rw [if_neg (by omega)]; done)⟩
            · replace hb70 := cq_eq.2.mp hb70
              refine e_step (pc' := 74) hK rfl rfl rfl ?_
              refine e_ret hK rfl rfl rfl ?_
              refine ⟨?_, rfl, rfl⟩
              congr 1
              rw [he]
              unfold crs
              have e1 : (((m + 1 : Nat) : Int) - 1) = (m : Int) := by omega
              rw [e1] at hb28 hb70
              rw [if_pos hb28, if_pos ⟨by omega, by first | (rw [if_neg (by omega)]; exact hb70) | (rw [if_pos (by omega)]; exact hb70)⟩]
        · replace hb48 := cq_ne.2.mp hb48
          refine e_step (pc' := 53) hK rfl rfl rfl ?_
          refine e_step (pc' := 55) hK rfl rfl rfl ?_
          refine e_step (pc' := 56) hK rfl rfl rfl ?_
          refine e_step (pc' := 58) hK rfl rfl rfl ?_
          try simp only [List.set_cons_zero, List.set_cons_succ]
          refine e_step (pc' := 59) hK rfl rfl rfl ?_
          refine e_step (pc' := 60) hK rfl rfl rfl ?_
          refine e_icmp (t := 75) (pc' := 63) hK rfl (by first | omega | (have q1 := gt_b hB (((m + 1 : Nat) : Int) - 1); have q2 := xv_b (gl_ok hB (((m + 1 : Nat) : Int) - 1)) q; omega)) (by first | omega | (have q1 := gt_b hB (((m + 1 : Nat) : Int) - 1); have q2 := xv_b (gl_ok hB (((m + 1 : Nat) : Int) - 1)) q; omega)) (by decide) rfl (fun hb60 => ?_) (fun hb60 => ?_)
          · replace hb60 := cq_le.1.mp hb60
            refine e_step (pc' := 77) hK rfl rfl rfl ?_
            refine e_step (pc' := 79) hK rfl rfl rfl ?_
            try simp only [List.set_cons_zero, List.set_cons_succ]
            refine e_step (pc' := 82) hK rfl rfl rfl ?_
            try simp only [List.set_cons_zero, List.set_cons_succ]
            refine e_step (pc' := 85) hK rfl rfl rfl ?_
            try simp only [List.set_cons_zero, List.set_cons_succ]
            refine e_goto (t := 16) hK rfl (by decide) ?_
            have e1 : (((m + 1 : Nat) : Int) - 1) = (m : Int) := by omega
            have q2 := xv_b (gl_ok hB (((m + 1 : Nat) : Int) - 1)) q
            rw [e1] at hb28
            rw [e1]
            rw [e1] at q2
            exact ih _ _ _ _ ⟨by omega, by omega, by omega, by omega, by omega, by omega, by omega, by rw [he]; show (if _ then _ else _) = _; rw [if_pos hb28, if_neg (by first | omega | (intro q8; rw [if_neg (by omega)] at q8; omega) | (intro q8; rw [if_pos (by omega)] at q8; omega))]; first | (rw [if_pos (by omega)]; done) | (rw [if_neg (by omega)]; done)⟩
          · replace hb60 := cq_le.2.mp hb60
            refine e_step (pc' := 65) hK rfl rfl rfl ?_
            refine e_step (pc' := 67) hK rfl rfl rfl ?_
            refine e_step (pc' := 68) hK rfl rfl rfl ?_
            refine e_step (pc' := 70) hK rfl rfl rfl ?_
            refine e_icmp (t := 75) (pc' := 73) hK rfl (by first | omega | (have q1 := gt_b hB (((m + 1 : Nat) : Int) - 1); have q2 := xv_b (gl_ok hB (((m + 1 : Nat) : Int) - 1)) q; omega)) (by first | omega | (have q1 := gt_b hB (((m + 1 : Nat) : Int) - 1); have q2 := xv_b (gl_ok hB (((m + 1 : Nat) : Int) - 1)) q; omega)) (by decide) rfl (fun hb70 => ?_) (fun hb70 => ?_)
            · replace hb70 := cq_eq.1.mp hb70
              refine e_step (pc' := 77) hK rfl rfl rfl ?_
              refine e_step (pc' := 79) hK rfl rfl rfl ?_
              try simp only [List.set_cons_zero, List.set_cons_succ]
              refine e_step (pc' := 82) hK rfl rfl rfl ?_
              try simp only [List.set_cons_zero, List.set_cons_succ]
              refine e_step (pc' := 85) hK rfl rfl rfl ?_
              try simp only [List.set_cons_zero, List.set_cons_succ]
              refine e_goto (t := 16) hK rfl (by decide) ?_
              have e1 : (((m + 1 : Nat) : Int) - 1) = (m : Int) := by omega
              have q2 := xv_b (gl_ok hB (((m + 1 : Nat) : Int) - 1)) q
              rw [e1] at hb28 hb70
              rw [e1]
              rw [e1] at q2
              exact ih _ _ _ _ ⟨by omega, by omega, by omega, by omega, by omega, by omega, by omega, by rw [he]; show (if _ then _ else _) = _; rw [if_pos hb28, if_neg (by first | omega | (intro q8; rw [if_neg (by omega)] at q8; omega) | (intro q8; rw [if_pos (by omega)] at q8; omega))]; first | (rw [if_pos (by omega)]; done) | (rw [if_neg (by omega)]; done)⟩
            · replace hb70 := cq_eq.2.mp hb70
              refine e_step (pc' := 74) hK rfl rfl rfl ?_
              refine e_ret hK rfl rfl rfl ?_
              refine ⟨?_, rfl, rfl⟩
              congr 1
              rw [he]
              unfold crs
              have e1 : (((m + 1 : Nat) : Int) - 1) = (m : Int) := by omega
              rw [e1] at hb28 hb70
              rw [if_pos hb28, if_pos ⟨by omega, by first | (rw [if_neg (by omega)]; exact hb70) | (rw [if_pos (by omega)]; exact hb70)⟩]
      · replace hb28 := cq_eq.2.mp hb28
        refine e_goto (t := 82) hK rfl (by decide) ?_
        refine e_step (pc' := 85) hK rfl rfl rfl ?_
        try simp only [List.set_cons_zero, List.set_cons_succ]
        refine e_goto (t := 16) hK rfl (by decide) ?_
        have e1 : (((m + 1 : Nat) : Int) - 1) = (m : Int) := by omega
        have q2 := xv_b (gl_ok hB (((m + 1 : Nat) : Int) - 1)) q
        rw [e1] at hb28
        rw [e1]
        exact ih _ _ _ _ ⟨by omega, by omega, by omega, by omega, by omega, by omega, by omega, by rw [he]; show (if _ then _ else _) = _; rw [if_neg hb28]⟩
set_option maxRecDepth 10000 in
theorem c_rise {s : Int} {A : lg} (hs : StA h s A) (t q : Int) (ht : mv_i t) (hq : mv_i q) : mv_Cl sc q_Counts_risingLines [(2, s), (0, t), (0, q)] c h (mv_Rd (0, crs A t q (gn A) 0 0 0) c h) := by
  have hs0 := hs
  obtain ⟨⟨s1, s2, t0, f0, f1, f2, f3, f4, ⟨t1, l1⟩, ⟨t2, l2⟩, ⟨t3, l3⟩, ⟨t4, l4⟩, hl0⟩, hB, fn, fT, gL', gP', gS', gO'⟩ := hs
  have b1 := hB.1
  have b2 := hB.2.1
  show mv_Ev sc 92 0 [(2, s), (0, t), (0, q), (5, 0), (5, 0), (5, 0), (5, 0), (5, 0)] [] c h _
  have hK : (mv_m 92).1 = kc_Counts_risingLines := rfl
  refine e_step (pc' := 1) hK rfl rfl rfl ?_
  refine e_step (pc' := 2) hK rfl rfl rfl ?_
  try simp only [List.set_cons_zero, List.set_cons_succ]
  refine e_step (pc' := 3) hK rfl rfl rfl ?_
  refine e_step (pc' := 5) hK rfl rfl rfl ?_
  try simp only [List.set_cons_zero, List.set_cons_succ]
  refine e_step (pc' := 6) hK rfl rfl rfl ?_
  refine e_step (pc' := 8) hK rfl rfl rfl ?_
  try simp only [List.set_cons_zero, List.set_cons_succ]
  refine e_step (pc' := 9) hK rfl rfl rfl ?_
  refine e_getI (ci := 2) (k := 5) (pc' := 12) hK rfl (by simp (disch := omega) only [t0, f0, f1, f2, f3, f4, t1, l1, t2, l2, t3, l3, t4, l4, fn, fT, gP']) rfl rfl (by decide) (by decide) rfl ?_
  try simp (disch := omega) only [t0, f0, f1, f2, f3, f4, t1, l1, t2, l2, t3, l3, t4, l4, fn, fT, gP']
  refine e_step (pc' := 13) hK rfl rfl rfl ?_
  refine e_step (pc' := 14) hK rfl rfl rfl ?_
  refine e_step (pc' := 16) hK rfl rfl rfl ?_
  try simp only [List.set_cons_zero, List.set_cons_succ]
  exact c_rise1 hs0 t q ht hq (gn A) 0 0 0 _ ⟨by omega, by omega, by omega, by omega, by omega, by omega, by omega, rfl⟩
end CU
