/-! costs and numbers (written by wip/whole/m29.py) -/
section CO
variable {sc : Int × (Int → Int)} {c : mv_C} {h : mv_H}
set_option maxRecDepth 10000 in
theorem c_valueBehind {s : Int} {A : lg} (hs : StA h s A) (i q : Int) (hi : mv_i i) (hp : mv_i q) : mv_Cl sc q_Exp_valueBehind [(2, s), (0, i), (0, q)] c h (mv_Rd (0, vb A i q) c h) := by
  have hs0 := hs
  obtain ⟨⟨s1, s2, t0, f0, f1, f2, f3, f4, ⟨t1, l1⟩, ⟨t2, l2⟩, ⟨t3, l3⟩, ⟨t4, l4⟩, hl0⟩, hB, fn, fT, gL', gP', gS', gO'⟩ := hs
  have b1 := hB.1
  have b2 := hB.2.1
  have hq := hs0.lr (i)
  have oq := gl_ok hB (i)
  have qf := hq.n
  have qt := hq.tag
  have qn := hq.len
  have rt := (hs0.lr (glo A (gt A i) i)).tag
  show mv_Ev sc 95 0 [(2, s), (0, i), (0, q), (5, 0), (5, 0)] [] c h _
  have hK : (mv_m 95).1 = kc_Exp_valueBehind := rfl
  refine e_step (pc' := 1) hK rfl rfl rfl ?_
  refine e_step (pc' := 2) hK rfl rfl rfl ?_
  refine e_cRV2 (z := 26) (pc' := 5) hK rfl rfl (by first | (simp (disch := omega) only [t0, f0, f1, f2, f3, f4, t1, l1, t2, l2, t3, l3, t4, l4, fn, fT, gP', qt, rt]; rfl) | (show _ = 2; assumption) | (show _ = 1; assumption) | (show _ = 0; assumption) | (show _ = 3; assumption) | (show _ = 4; assumption)) rfl (Nat.le_of_ble_eq_true rfl) (Nat.le_of_ble_eq_true rfl) (c_lineAt hs0 i hi) (by decide) rfl ?_
  try simp (disch := omega) only [t0, f0, f1, f2, f3, f4, t1, l1, t2, l2, t3, l3, t4, l4, fn, fT, gP', qt, rt]
  refine e_step (pc' := 6) hK rfl rfl rfl ?_
  refine e_cRV2 (z := 11) (pc' := 9) hK rfl rfl (by first | (simp (disch := omega) only [t0, f0, f1, f2, f3, f4, t1, l1, t2, l2, t3, l3, t4, l4, fn, fT, gP', qt, rt]; rfl) | (show _ = 2; assumption) | (show _ = 1; assumption) | (show _ = 0; assumption) | (show _ = 3; assumption) | (show _ = 4; assumption)) rfl (Nat.le_of_ble_eq_true rfl) (Nat.le_of_ble_eq_true rfl) (x_valueAt hq _ hp) (by decide) rfl ?_
  try simp (disch := omega) only [t0, f0, f1, f2, f3, f4, t1, l1, t2, l2, t3, l3, t4, l4, fn, fT, gP', qt, rt]
  refine e_step (pc' := 10) hK rfl rfl rfl ?_
  try simp only [List.set_cons_zero, List.set_cons_succ]
  refine e_step (pc' := 11) hK rfl rfl rfl ?_
  refine e_step (pc' := 12) hK rfl rfl rfl ?_
  refine e_step (pc' := 13) hK rfl rfl rfl ?_
  refine e_cRV2 (z := 27) (pc' := 16) hK rfl rfl (by first | (simp (disch := omega) only [t0, f0, f1, f2, f3, f4, t1, l1, t2, l2, t3, l3, t4, l4, fn, fT, gP', qt, rt]; rfl) | (show _ = 2; assumption) | (show _ = 1; assumption) | (show _ = 0; assumption) | (show _ = 3; assumption) | (show _ = 4; assumption)) rfl (Nat.le_of_ble_eq_true rfl) (Nat.le_of_ble_eq_true rfl) (c_templateAt hs0 i hi) (by decide) rfl ?_
  try simp (disch := omega) only [t0, f0, f1, f2, f3, f4, t1, l1, t2, l2, t3, l3, t4, l4, fn, fT, gP', qt, rt]
  refine e_step (pc' := 17) hK rfl rfl rfl ?_
  refine e_cRV3 (z := 25) (pc' := 20) hK rfl rfl (by first | (simp (disch := omega) only [t0, f0, f1, f2, f3, f4, t1, l1, t2, l2, t3, l3, t4, l4, fn, fT, gP', qt, rt]; rfl) | (show _ = 2; assumption) | (show _ = 1; assumption) | (show _ = 0; assumption) | (show _ = 3; assumption) | (show _ = 4; assumption)) rfl (Nat.le_of_ble_eq_true rfl) (Nat.le_of_ble_eq_true rfl) (c_lastOf hs0 (gt A i) i (by have q1 := gt_b hB i; omega) hi) (by decide) rfl ?_
  try simp (disch := omega) only [t0, f0, f1, f2, f3, f4, t1, l1, t2, l2, t3, l3, t4, l4, fn, fT, gP', qt, rt]
  rw [show ll (fun j => decide (j < i) && decide (gP A j = gt A i)) (gn A) = glo A (gt A i) i from rfl]
  refine e_step (pc' := 22) hK rfl rfl rfl ?_
  try simp only [List.set_cons_zero, List.set_cons_succ]
  refine e_step (pc' := 24) hK rfl rfl rfl ?_
  refine e_step (pc' := 27) hK rfl rfl rfl ?_
  refine e_icmp (t := 34) (pc' := 30) hK rfl (by first | omega | (have q1 := glo_b A (gt A i) i; omega)) (by first | omega | (have q1 := glo_b A (gt A i) i; omega)) (by decide) rfl (fun hb27 => ?_) (fun hb27 => ?_)
  · replace hb27 := cq_ne.1.mp hb27
    refine e_step (pc' := 35) hK rfl rfl rfl ?_
    refine e_step (pc' := 36) hK rfl rfl rfl ?_
    refine e_step (pc' := 37) hK rfl rfl rfl ?_
    refine e_step (pc' := 39) hK rfl rfl rfl ?_
    refine e_cRV2 (z := 26) (pc' := 42) hK rfl rfl (by first | (simp (disch := omega) only [t0, f0, f1, f2, f3, f4, t1, l1, t2, l2, t3, l3, t4, l4, fn, fT, gP', qt, rt]; rfl) | (show _ = 2; assumption) | (show _ = 1; assumption) | (show _ = 0; assumption) | (show _ = 3; assumption) | (show _ = 4; assumption)) rfl (Nat.le_of_ble_eq_true rfl) (Nat.le_of_ble_eq_true rfl) (c_lineAt hs0 (glo A (gt A i) i) (by have q1 := glo_b A (gt A i) i; omega)) (by decide) rfl ?_
    try simp (disch := omega) only [t0, f0, f1, f2, f3, f4, t1, l1, t2, l2, t3, l3, t4, l4, fn, fT, gP', qt, rt]
    refine e_step (pc' := 43) hK rfl rfl rfl ?_
    refine e_cRV2 (z := 11) (pc' := 46) hK rfl rfl (by first | (simp (disch := omega) only [t0, f0, f1, f2, f3, f4, t1, l1, t2, l2, t3, l3, t4, l4, fn, fT, gP', qt, rt]; rfl) | (show _ = 2; assumption) | (show _ = 1; assumption) | (show _ = 0; assumption) | (show _ = 3; assumption) | (show _ = 4; assumption)) rfl (Nat.le_of_ble_eq_true rfl) (Nat.le_of_ble_eq_true rfl) (x_valueAt (hs0.lr (glo A (gt A i) i)) _ hp) (by decide) rfl ?_
    try simp (disch := omega) only [t0, f0, f1, f2, f3, f4, t1, l1, t2, l2, t3, l3, t4, l4, fn, fT, gP', qt, rt]
    refine e_step (pc' := 47) hK rfl rfl rfl ?_
    refine e_step (pc' := 48) hK rfl rfl rfl ?_
    refine e_ret hK rfl rfl rfl ?_
    refine ⟨?_, rfl, rfl⟩
    congr 1
    unfold vb
    first | (rw [if_pos hb27]; done) | (rw [if_neg hb27])
  · replace hb27 := cq_ne.2.mp hb27
    refine e_step (pc' := 31) hK rfl rfl rfl ?_
    refine e_goto (t := 48) hK rfl (by decide) ?_
    refine e_ret hK rfl rfl rfl ?_
    refine ⟨?_, rfl, rfl⟩
    congr 1
    unfold vb
    first | (rw [if_pos hb27]; done) | (rw [if_neg hb27])
set_option maxRecDepth 10000 in
theorem c_seen1 {s : Int} {A : lg} (hs : StA h s A)  {l : Int} {x : xt} (hl : LnX h l x) (t q pl : Int) (ht : mv_i t) (hq0 : mv_i q) (hpl : mv_i pl) : ∀ (m : Nat) (i : Nat) (a7 : mv_V), i + m = gn A ∧ lo (fun i => decide (i < pl) && decide (gt A i = t) && csm A x q i) i = false → mv_Ev sc 84 19 [(2, s), (2, l), (0, t), (0, q), (0, pl), (0, mv_bo (decide (xk x q = 3))), (0, (i : Int)), a7] [] c h (mv_Rd (0, mv_bo (cz A x t q pl)) c h) := by
  intro m
  induction m with
  | zero =>
    intro i a7 ⟨hi, hf⟩
    have hs0 := hs
    obtain ⟨⟨s1, s2, t0, f0, f1, f2, f3, f4, ⟨t1, l1⟩, ⟨t2, l2⟩, ⟨t3, l3⟩, ⟨t4, l4⟩, hl0⟩, hB, fn, fT, gL', gP', gS', gO'⟩ := hs
    have b1 := hB.1
    have b2 := hB.2.1
    have ox := hl.ok
    obtain ⟨n1, n2, n3, n4⟩ := xn_b hl.ok
    have xf := hl.n
    have xt := hl.tag
    have hq := hs0.lr ((i : Int))
    have oq := gl_ok hB ((i : Int))
    have qf := hq.n
    have qt := hq.tag
    have qn := hq.len
    have hK : (mv_m 84).1 = kc_Counts_isSeenBefore := rfl
    refine e_step (pc' := 21) hK rfl rfl rfl ?_
    refine e_step (pc' := 23) hK rfl rfl rfl ?_
    refine e_icmp (t := 97) (pc' := 26) hK rfl (by first | omega | exact bo_i _ | (have q1 := gt_b hB (i : Int); have q2 := xv_b ox q; have q3 := xv_b oq q; omega)) (by first | omega | exact bo_i _ | (have q1 := gt_b hB (i : Int); have q2 := xv_b ox q; have q3 := xv_b oq q; omega)) (by decide) rfl (fun hb23 => ?_) (fun hb23 => ?_)
    · replace hb23 := cq_ge.1.mp hb23
      try simp only [bo_0, Bool.not_eq_false] at hb23
      refine e_step (pc' := 98) hK rfl rfl rfl ?_
      refine e_ret hK rfl rfl (by first | rfl | (simp only [mv_ret]; rw [if_pos]; exact Or.inr ⟨rfl, by omega⟩)) ?_
      refine ⟨?_, rfl, rfl⟩
      congr 1
      unfold cz
      rw [lo_rest (i := i) (by omega) (fun j h1 h2 => by first | (rw [decide_eq_false (show ¬ ((j : Nat) : Int) < pl by omega)]; rfl) | (exfalso; omega)), hf]
      rfl
    · replace hb23 := cq_ge.2.mp hb23
      try simp only [bo_0, Bool.not_eq_false] at hb23
      refine e_step (pc' := 28) hK rfl rfl rfl ?_
      refine e_step (pc' := 29) hK rfl rfl rfl ?_
      refine e_getI (ci := 2) (k := 5) (pc' := 32) hK rfl (by simp (disch := omega) only [t0, f0, f1, f2, f3, f4, t1, l1, t2, l2, t3, l3, t4, l4, fn, fT, gP', xt, qt]) rfl rfl (by decide) (by decide) rfl ?_
      try simp (disch := omega) only [t0, f0, f1, f2, f3, f4, t1, l1, t2, l2, t3, l3, t4, l4, fn, fT, gP', xt, qt]
      refine e_icmp (t := 97) (pc' := 35) hK rfl (by first | omega | exact bo_i _ | (have q1 := gt_b hB (i : Int); have q2 := xv_b ox q; have q3 := xv_b oq q; omega)) (by first | omega | exact bo_i _ | (have q1 := gt_b hB (i : Int); have q2 := xv_b ox q; have q3 := xv_b oq q; omega)) (by decide) rfl (fun hb32 => ?_) (fun hb32 => ?_)
      · replace hb32 := cq_ge.1.mp hb32
        try simp only [bo_0, Bool.not_eq_false] at hb32
        refine e_step (pc' := 98) hK rfl rfl rfl ?_
        refine e_ret hK rfl rfl (by first | rfl | (simp only [mv_ret]; rw [if_pos]; exact Or.inr ⟨rfl, by omega⟩)) ?_
        refine ⟨?_, rfl, rfl⟩
        congr 1
        unfold cz
        rw [lo_rest (i := i) (by omega) (fun j h1 h2 => by first | (rw [decide_eq_false (show ¬ ((j : Nat) : Int) < pl by omega)]; rfl) | (exfalso; omega)), hf]
        rfl
      · replace hb32 := cq_ge.2.mp hb32
        try simp only [bo_0, Bool.not_eq_false] at hb32
        exfalso; first | omega | exact absurd trivial (by assumption) | (first | omega | exact bo_i _ | (have q1 := gt_b hB (i : Int); have q2 := xv_b ox q; have q3 := xv_b oq q; omega))
  | succ m ih =>
    intro i a7 ⟨hi, hf⟩
    have hs0 := hs
    obtain ⟨⟨s1, s2, t0, f0, f1, f2, f3, f4, ⟨t1, l1⟩, ⟨t2, l2⟩, ⟨t3, l3⟩, ⟨t4, l4⟩, hl0⟩, hB, fn, fT, gL', gP', gS', gO'⟩ := hs
    have b1 := hB.1
    have b2 := hB.2.1
    have ox := hl.ok
    obtain ⟨n1, n2, n3, n4⟩ := xn_b hl.ok
    have xf := hl.n
    have xt := hl.tag
    have hq := hs0.lr ((i : Int))
    have oq := gl_ok hB ((i : Int))
    have qf := hq.n
    have qt := hq.tag
    have qn := hq.len
    have hK : (mv_m 84).1 = kc_Counts_isSeenBefore := rfl
    refine e_step (pc' := 21) hK rfl rfl rfl ?_
    refine e_step (pc' := 23) hK rfl rfl rfl ?_
    refine e_icmp (t := 97) (pc' := 26) hK rfl (by first | omega | exact bo_i _ | (have q1 := gt_b hB (i : Int); have q2 := xv_b ox q; have q3 := xv_b oq q; omega)) (by first | omega | exact bo_i _ | (have q1 := gt_b hB (i : Int); have q2 := xv_b ox q; have q3 := xv_b oq q; omega)) (by decide) rfl (fun hb23 => ?_) (fun hb23 => ?_)
    · replace hb23 := cq_ge.1.mp hb23
      try simp only [bo_0, Bool.not_eq_false] at hb23
      refine e_step (pc' := 98) hK rfl rfl rfl ?_
      refine e_ret hK rfl rfl (by first | rfl | (simp only [mv_ret]; rw [if_pos]; exact Or.inr ⟨rfl, by omega⟩)) ?_
      refine ⟨?_, rfl, rfl⟩
      congr 1
      unfold cz
      rw [lo_rest (i := i) (by omega) (fun j h1 h2 => by first | (rw [decide_eq_false (show ¬ ((j : Nat) : Int) < pl by omega)]; rfl) | (exfalso; omega)), hf]
      rfl
    · replace hb23 := cq_ge.2.mp hb23
      try simp only [bo_0, Bool.not_eq_false] at hb23
      refine e_step (pc' := 28) hK rfl rfl rfl ?_
      refine e_step (pc' := 29) hK rfl rfl rfl ?_
      refine e_getI (ci := 2) (k := 5) (pc' := 32) hK rfl (by simp (disch := omega) only [t0, f0, f1, f2, f3, f4, t1, l1, t2, l2, t3, l3, t4, l4, fn, fT, gP', xt, qt]) rfl rfl (by decide) (by decide) rfl ?_
      try simp (disch := omega) only [t0, f0, f1, f2, f3, f4, t1, l1, t2, l2, t3, l3, t4, l4, fn, fT, gP', xt, qt]
      refine e_icmp (t := 97) (pc' := 35) hK rfl (by first | omega | exact bo_i _ | (have q1 := gt_b hB (i : Int); have q2 := xv_b ox q; have q3 := xv_b oq q; omega)) (by first | omega | exact bo_i _ | (have q1 := gt_b hB (i : Int); have q2 := xv_b ox q; have q3 := xv_b oq q; omega)) (by decide) rfl (fun hb32 => ?_) (fun hb32 => ?_)
      · replace hb32 := cq_ge.1.mp hb32
        try simp only [bo_0, Bool.not_eq_false] at hb32
        exfalso; first | omega | exact absurd trivial (by assumption) | (first | omega | exact bo_i _ | (have q1 := gt_b hB (i : Int); have q2 := xv_b ox q; have q3 := xv_b oq q; omega))
      · replace hb32 := cq_ge.2.mp hb32
        try simp only [bo_0, Bool.not_eq_false] at hb32
        refine e_step (pc' := 36) hK rfl rfl rfl ?_
        refine e_step (pc' := 38) hK rfl rfl rfl ?_
        refine e_cRV2 (z := 26) (pc' := 41) hK rfl rfl (by first | (simp (disch := omega) only [t0, f0, f1, f2, f3, f4, t1, l1, t2, l2, t3, l3, t4, l4, fn, fT, gP', xt, qt]; rfl) | (show _ = 2; assumption) | (show _ = 1; assumption) | (show _ = 0; assumption) | (show _ = 3; assumption) | (show _ = 4; assumption)) rfl (Nat.le_of_ble_eq_true rfl) (Nat.le_of_ble_eq_true rfl) (c_lineAt hs0 (i : Int) (by omega)) (by decide) rfl ?_
        try simp (disch := omega) only [t0, f0, f1, f2, f3, f4, t1, l1, t2, l2, t3, l3, t4, l4, fn, fT, gP', xt, qt]
        refine e_step (pc' := 43) hK rfl rfl rfl ?_
        try simp only [List.set_cons_zero, List.set_cons_succ]
        refine e_step (pc' := 44) hK rfl rfl rfl ?_
        refine e_step (pc' := 46) hK rfl rfl rfl ?_
        refine e_cRV2 (z := 27) (pc' := 49) hK rfl rfl (by first | (simp (disch := omega) only [t0, f0, f1, f2, f3, f4, t1, l1, t2, l2, t3, l3, t4, l4, fn, fT, gP', xt, qt]; rfl) | (show _ = 2; assumption) | (show _ = 1; assumption) | (show _ = 0; assumption) | (show _ = 3; assumption) | (show _ = 4; assumption)) rfl (Nat.le_of_ble_eq_true rfl) (Nat.le_of_ble_eq_true rfl) (c_templateAt hs0 (i : Int) (by omega)) (by decide) rfl ?_
        try simp (disch := omega) only [t0, f0, f1, f2, f3, f4, t1, l1, t2, l2, t3, l3, t4, l4, fn, fT, gP', xt, qt]
        refine e_step (pc' := 50) hK rfl rfl rfl ?_
        refine e_icmp (t := 56) (pc' := 53) hK rfl (by first | omega | exact bo_i _ | (have q1 := gt_b hB (i : Int); have q2 := xv_b ox q; have q3 := xv_b oq q; omega)) (by first | omega | exact bo_i _ | (have q1 := gt_b hB (i : Int); have q2 := xv_b ox q; have q3 := xv_b oq q; omega)) (by decide) rfl (fun hb50 => ?_) (fun hb50 => ?_)
        · replace hb50 := cq_eq.1.mp hb50
          try simp only [bo_0, Bool.not_eq_false] at hb50
          refine e_step (pc' := 58) hK rfl rfl rfl ?_
          refine e_if (t := 78) (pc' := 61) hK rfl (by first | omega | exact bo_i _ | (have q1 := gt_b hB (i : Int); have q2 := xv_b ox q; have q3 := xv_b oq q; omega)) (by decide) rfl (fun hb58 => ?_) (fun hb58 => ?_)
          · replace hb58 := cq_eq.1.mp hb58
            try simp only [bo_0, Bool.not_eq_false] at hb58
            refine e_step (pc' := 79) hK rfl rfl rfl ?_
            refine e_step (pc' := 80) hK rfl rfl rfl ?_
            refine e_step (pc' := 82) hK rfl rfl rfl ?_
            refine e_step (pc' := 83) hK rfl rfl rfl ?_
            refine e_cRV4 (z := 9) (pc' := 86) hK rfl rfl (by first | (simp (disch := omega) only [t0, f0, f1, f2, f3, f4, t1, l1, t2, l2, t3, l3, t4, l4, fn, fT, gP', xt, qt]; rfl) | (show _ = 2; assumption) | (show _ = 1; assumption) | (show _ = 0; assumption) | (show _ = 3; assumption) | (show _ = 4; assumption)) rfl (Nat.le_of_ble_eq_true rfl) (Nat.le_of_ble_eq_true rfl) (x_written hl hq _ _ hq0 hq0) (by decide) rfl ?_
            try simp (disch := omega) only [t0, f0, f1, f2, f3, f4, t1, l1, t2, l2, t3, l3, t4, l4, fn, fT, gP', xt, qt]
            refine e_if (t := 91) (pc' := 89) hK rfl (by first | omega | exact bo_i _ | (have q1 := gt_b hB (i : Int); have q2 := xv_b ox q; have q3 := xv_b oq q; omega)) (by decide) rfl (fun hb86 => ?_) (fun hb86 => ?_)
            · replace hb86 := cq_eq.1.mp hb86
              try simp only [bo_0, Bool.not_eq_false] at hb86
              refine e_step (pc' := 94) hK rfl rfl rfl ?_
              try simp only [List.set_cons_zero, List.set_cons_succ]
              refine e_goto (t := 19) hK rfl (by decide) ?_
              exact ih (i + 1) _ ⟨by omega, lo_s hf (by show (decide _ && _ && _) = false; rw [show csm A x q i = false from by { unfold csm; rw [if_neg (by simpa only [decide_eq_false_iff_not] using hb58), hb86] }, Bool.and_false])⟩
            · replace hb86 := cq_eq.2.mp hb86
              try simp only [bo_0, Bool.not_eq_false] at hb86
              refine e_step (pc' := 90) hK rfl rfl rfl ?_
              refine e_ret hK rfl rfl (by first | rfl | (simp only [mv_ret]; rw [if_pos]; exact Or.inr ⟨rfl, by omega⟩)) ?_
              refine ⟨?_, rfl, rfl⟩
              congr 1
              unfold cz
              rw [lo_t (i := i) (by show (decide _ && _ && _) = true; rw [decide_eq_true hb23, decide_eq_true hb50, show csm A x q i = true from by { unfold csm; rw [if_neg (by simpa only [decide_eq_false_iff_not] using hb58)]; exact hb86 }]; rfl) (by omega)]
              rfl
          · replace hb58 := cq_eq.2.mp hb58
            try simp only [bo_0, Bool.not_eq_false] at hb58
            refine e_step (pc' := 62) hK rfl rfl rfl ?_
            refine e_step (pc' := 63) hK rfl rfl rfl ?_
            refine e_cRV2 (z := 11) (pc' := 66) hK rfl rfl (by first | (simp (disch := omega) only [t0, f0, f1, f2, f3, f4, t1, l1, t2, l2, t3, l3, t4, l4, fn, fT, gP', xt, qt]; rfl) | (show _ = 2; assumption) | (show _ = 1; assumption) | (show _ = 0; assumption) | (show _ = 3; assumption) | (show _ = 4; assumption)) rfl (Nat.le_of_ble_eq_true rfl) (Nat.le_of_ble_eq_true rfl) (x_valueAt hl _ hq0) (by decide) rfl ?_
            try simp (disch := omega) only [t0, f0, f1, f2, f3, f4, t1, l1, t2, l2, t3, l3, t4, l4, fn, fT, gP', xt, qt]
            refine e_step (pc' := 68) hK rfl rfl rfl ?_
            refine e_step (pc' := 69) hK rfl rfl rfl ?_
            refine e_cRV2 (z := 11) (pc' := 72) hK rfl rfl (by first | (simp (disch := omega) only [t0, f0, f1, f2, f3, f4, t1, l1, t2, l2, t3, l3, t4, l4, fn, fT, gP', xt, qt]; rfl) | (show _ = 2; assumption) | (show _ = 1; assumption) | (show _ = 0; assumption) | (show _ = 3; assumption) | (show _ = 4; assumption)) rfl (Nat.le_of_ble_eq_true rfl) (Nat.le_of_ble_eq_true rfl) (x_valueAt hq _ hq0) (by decide) rfl ?_
            try simp (disch := omega) only [t0, f0, f1, f2, f3, f4, t1, l1, t2, l2, t3, l3, t4, l4, fn, fT, gP', xt, qt]
            refine e_icmp (t := 91) (pc' := 75) hK rfl (by first | omega | exact bo_i _ | (have q1 := gt_b hB (i : Int); have q2 := xv_b ox q; have q3 := xv_b oq q; omega)) (by first | omega | exact bo_i _ | (have q1 := gt_b hB (i : Int); have q2 := xv_b ox q; have q3 := xv_b oq q; omega)) (by decide) rfl (fun hb72 => ?_) (fun hb72 => ?_)
            · replace hb72 := cq_ne.1.mp hb72
              try simp only [bo_0, Bool.not_eq_false] at hb72
              refine e_step (pc' := 94) hK rfl rfl rfl ?_
              try simp only [List.set_cons_zero, List.set_cons_succ]
              refine e_goto (t := 19) hK rfl (by decide) ?_
              exact ih (i + 1) _ ⟨by omega, lo_s hf (by show (decide _ && _ && _) = false; rw [show csm A x q i = false from by { unfold csm; rw [if_pos (by simpa only [decide_eq_true_eq] using hb58), decide_eq_false hb72] }, Bool.and_false])⟩
            · replace hb72 := cq_ne.2.mp hb72
              try simp only [bo_0, Bool.not_eq_false] at hb72
              refine e_goto (t := 89) hK rfl (by decide) ?_
              refine e_step (pc' := 90) hK rfl rfl rfl ?_
              refine e_ret hK rfl rfl (by first | rfl | (simp only [mv_ret]; rw [if_pos]; exact Or.inr ⟨rfl, by omega⟩)) ?_
              refine ⟨?_, rfl, rfl⟩
              congr 1
              unfold cz
              rw [lo_t (i := i) (by show (decide _ && _ && _) = true; rw [decide_eq_true hb23, decide_eq_true hb50, show csm A x q i = true from by { unfold csm; rw [if_pos (by simpa only [decide_eq_true_eq] using hb58)]; exact decide_eq_true hb72 }]; rfl) (by omega)]
              rfl
        · replace hb50 := cq_eq.2.mp hb50
          try simp only [bo_0, Bool.not_eq_false] at hb50
          refine e_goto (t := 91) hK rfl (by decide) ?_
          refine e_step (pc' := 94) hK rfl rfl rfl ?_
          try simp only [List.set_cons_zero, List.set_cons_succ]
          refine e_goto (t := 19) hK rfl (by decide) ?_
          exact ih (i + 1) _ ⟨by omega, lo_s hf (by show (decide _ && _ && _) = false; rw [decide_eq_false hb50, Bool.and_false, Bool.false_and])⟩
set_option maxRecDepth 10000 in
theorem c_seen {s : Int} {A : lg} (hs : StA h s A)  {l : Int} {x : xt} (hl : LnX h l x) (t q pl : Int) (ht : mv_i t) (hq0 : mv_i q) (hpl : mv_i pl) : mv_Cl sc q_Counts_isSeenBefore [(2, s), (2, l), (0, t), (0, q), (0, pl)] c h (mv_Rd (0, mv_bo (cz A x t q pl)) c h) := by
  have hs0 := hs
  obtain ⟨⟨s1, s2, t0, f0, f1, f2, f3, f4, ⟨t1, l1⟩, ⟨t2, l2⟩, ⟨t3, l3⟩, ⟨t4, l4⟩, hl0⟩, hB, fn, fT, gL', gP', gS', gO'⟩ := hs
  have b1 := hB.1
  have b2 := hB.2.1
  have ox := hl.ok
  obtain ⟨n1, n2, n3, n4⟩ := xn_b hl.ok
  have xf := hl.n
  have xt := hl.tag
  show mv_Ev sc 84 0 [(2, s), (2, l), (0, t), (0, q), (0, pl), (5, 0), (5, 0), (5, 0)] [] c h _
  have hK : (mv_m 84).1 = kc_Counts_isSeenBefore := rfl
  refine e_step (pc' := 1) hK rfl rfl rfl ?_
  refine e_step (pc' := 2) hK rfl rfl rfl ?_
  refine e_cRV2 (z := 8) (pc' := 5) hK rfl rfl (by first | (simp (disch := omega) only [t0, f0, f1, f2, f3, f4, t1, l1, t2, l2, t3, l3, t4, l4, fn, fT, gP', xt]; rfl) | (show _ = 2; assumption) | (show _ = 1; assumption) | (show _ = 0; assumption) | (show _ = 3; assumption) | (show _ = 4; assumption)) rfl (Nat.le_of_ble_eq_true rfl) (Nat.le_of_ble_eq_true rfl) (x_kindAt hl _ hq0) (by decide) rfl ?_
  try simp (disch := omega) only [t0, f0, f1, f2, f3, f4, t1, l1, t2, l2, t3, l3, t4, l4, fn, fT, gP', xt]
  refine e_step (pc' := 6) hK rfl rfl rfl ?_
  refine e_icmp (t := 13) (pc' := 9) hK rfl (by first | omega | (have q1 := xk_b ox q; omega)) (by first | omega | (have q1 := xk_b ox q; omega)) (by decide) rfl (fun hb6 => ?_) (fun hb6 => ?_)
  · replace hb6 := cq_ne.1.mp hb6
    refine e_step (pc' := 14) hK rfl rfl rfl ?_
    refine e_step (pc' := 16) hK rfl rfl rfl ?_
    try simp only [List.set_cons_zero, List.set_cons_succ]
    refine e_step (pc' := 17) hK rfl rfl rfl ?_
    refine e_step (pc' := 19) hK rfl rfl rfl ?_
    try simp only [List.set_cons_zero, List.set_cons_succ]
    have q9 := c_seen1 (sc := sc) (c := c) hs0 hl t q pl ht hq0 hpl (gn A) 0 (5, 0) ⟨by omega, rfl⟩
    rw [decide_eq_false hb6] at q9
    exact q9
  · replace hb6 := cq_ne.2.mp hb6
    refine e_step (pc' := 10) hK rfl rfl rfl ?_
    refine e_goto (t := 14) hK rfl (by decide) ?_
    refine e_step (pc' := 16) hK rfl rfl rfl ?_
    try simp only [List.set_cons_zero, List.set_cons_succ]
    refine e_step (pc' := 17) hK rfl rfl rfl ?_
    refine e_step (pc' := 19) hK rfl rfl rfl ?_
    try simp only [List.set_cons_zero, List.set_cons_succ]
    have q9 := c_seen1 (sc := sc) (c := c) hs0 hl t q pl ht hq0 hpl (gn A) 0 (5, 0) ⟨by omega, rfl⟩
    rw [decide_eq_true hb6] at q9
    exact q9
set_option maxRecDepth 10000 in
theorem c_ofNumber {s : Int} {A : lg} (hs : StA h s A)  {l : Int} {x : xt} (hl : LnX h l x) (q b : Int) (hq0 : mv_i q) (hb0 : mv_i b) : mv_Cl sc q_Costs_ofNumber [(2, s), (2, l), (0, q), (0, b)] c h (mv_Rd (0, con A x q b) c h) := by
  have hs0 := hs
  obtain ⟨⟨s1, s2, t0, f0, f1, f2, f3, f4, ⟨t1, l1⟩, ⟨t2, l2⟩, ⟨t3, l3⟩, ⟨t4, l4⟩, hl0⟩, hB, fn, fT, gL', gP', gS', gO'⟩ := hs
  have b1 := hB.1
  have b2 := hB.2.1
  have ox := hl.ok
  obtain ⟨n1, n2, n3, n4⟩ := xn_b hl.ok
  have xf := hl.n
  have xt := hl.tag
  have hq := hs0.lr (b)
  have oq := gl_ok hB (b)
  have qf := hq.n
  have qt := hq.tag
  have qn := hq.len
  show mv_Ev sc 79 0 [(2, s), (2, l), (0, q), (0, b), (5, 0)] [] c h _
  have hK : (mv_m 79).1 = kc_Costs_ofNumber := rfl
  refine e_step (pc' := 1) hK rfl rfl rfl ?_
  refine e_step (pc' := 2) hK rfl rfl rfl ?_
  refine e_cRV2 (z := 10) (pc' := 5) hK rfl rfl (by first | (simp (disch := omega) only [t0, f0, f1, f2, f3, f4, t1, l1, t2, l2, t3, l3, t4, l4, fn, fT, gP', xt, qt]; rfl) | (show _ = 2; assumption) | (show _ = 1; assumption) | (show _ = 0; assumption) | (show _ = 3; assumption) | (show _ = 4; assumption)) rfl (Nat.le_of_ble_eq_true rfl) (Nat.le_of_ble_eq_true rfl) (x_sizeAt hl _ hq0) (by decide) rfl ?_
  try simp (disch := omega) only [t0, f0, f1, f2, f3, f4, t1, l1, t2, l2, t3, l3, t4, l4, fn, fT, gP', xt, qt]
  refine e_step (pc' := 7) hK rfl rfl rfl ?_
  try simp only [List.set_cons_zero, List.set_cons_succ]
  refine e_step (pc' := 8) hK rfl rfl rfl ?_
  refine e_step (pc' := 11) hK rfl rfl rfl ?_
  refine e_icmp (t := 28) (pc' := 14) hK rfl (by first | omega | (have q1 := xz_b ox q; have q2 := xz_b oq q; have q3 := xv_b ox q; have q4 := vb_b hB b q; omega)) (by first | omega | (have q1 := xz_b ox q; have q2 := xz_b oq q; have q3 := xv_b ox q; have q4 := vb_b hB b q; omega)) (by decide) rfl (fun hb11 => ?_) (fun hb11 => ?_)
  · replace hb11 := cq_eq.1.mp hb11
    refine e_step (pc' := 30) hK rfl rfl rfl ?_
    refine e_ret hK rfl rfl rfl ?_
    refine ⟨?_, rfl, rfl⟩
    congr 1
    unfold con
    first | (rw [if_pos (by omega)]; done) | (rw [if_neg (by omega), if_pos (by omega)]; done) | (rw [if_neg (by omega), if_neg (by omega)])
  · replace hb11 := cq_eq.2.mp hb11
    refine e_step (pc' := 16) hK rfl rfl rfl ?_
    refine e_step (pc' := 17) hK rfl rfl rfl ?_
    refine e_step (pc' := 18) hK rfl rfl rfl ?_
    refine e_cRV2 (z := 26) (pc' := 21) hK rfl rfl (by first | (simp (disch := omega) only [t0, f0, f1, f2, f3, f4, t1, l1, t2, l2, t3, l3, t4, l4, fn, fT, gP', xt, qt]; rfl) | (show _ = 2; assumption) | (show _ = 1; assumption) | (show _ = 0; assumption) | (show _ = 3; assumption) | (show _ = 4; assumption)) rfl (Nat.le_of_ble_eq_true rfl) (Nat.le_of_ble_eq_true rfl) (c_lineAt hs0 b hb0) (by decide) rfl ?_
    try simp (disch := omega) only [t0, f0, f1, f2, f3, f4, t1, l1, t2, l2, t3, l3, t4, l4, fn, fT, gP', xt, qt]
    refine e_step (pc' := 22) hK rfl rfl rfl ?_
    refine e_cRV2 (z := 10) (pc' := 25) hK rfl rfl (by first | (simp (disch := omega) only [t0, f0, f1, f2, f3, f4, t1, l1, t2, l2, t3, l3, t4, l4, fn, fT, gP', xt, qt]; rfl) | (show _ = 2; assumption) | (show _ = 1; assumption) | (show _ = 0; assumption) | (show _ = 3; assumption) | (show _ = 4; assumption)) rfl (Nat.le_of_ble_eq_true rfl) (Nat.le_of_ble_eq_true rfl) (x_sizeAt hq _ hq0) (by decide) rfl ?_
    try simp (disch := omega) only [t0, f0, f1, f2, f3, f4, t1, l1, t2, l2, t3, l3, t4, l4, fn, fT, gP', xt, qt]
    refine e_icmp (t := 31) (pc' := 28) hK rfl (by first | omega | (have q1 := xz_b ox q; have q2 := xz_b oq q; have q3 := xv_b ox q; have q4 := vb_b hB b q; omega)) (by first | omega | (have q1 := xz_b ox q; have q2 := xz_b oq q; have q3 := xv_b ox q; have q4 := vb_b hB b q; omega)) (by decide) rfl (fun hb25 => ?_) (fun hb25 => ?_)
    · replace hb25 := cq_eq.1.mp hb25
      refine e_step (pc' := 32) hK rfl rfl rfl ?_
      refine e_step (pc' := 33) hK rfl rfl rfl ?_
      refine e_cRV2 (z := 11) (pc' := 36) hK rfl rfl (by first | (simp (disch := omega) only [t0, f0, f1, f2, f3, f4, t1, l1, t2, l2, t3, l3, t4, l4, fn, fT, gP', xt, qt]; rfl) | (show _ = 2; assumption) | (show _ = 1; assumption) | (show _ = 0; assumption) | (show _ = 3; assumption) | (show _ = 4; assumption)) rfl (Nat.le_of_ble_eq_true rfl) (Nat.le_of_ble_eq_true rfl) (x_valueAt hl _ hq0) (by decide) rfl ?_
      try simp (disch := omega) only [t0, f0, f1, f2, f3, f4, t1, l1, t2, l2, t3, l3, t4, l4, fn, fT, gP', xt, qt]
      refine e_step (pc' := 37) hK rfl rfl rfl ?_
      refine e_step (pc' := 38) hK rfl rfl rfl ?_
      refine e_step (pc' := 39) hK rfl rfl rfl ?_
      refine e_cRS3 (z := 95) (pc' := 42) hK rfl rfl rfl (Nat.le_of_ble_eq_true rfl) (Nat.le_of_ble_eq_true rfl) (c_valueBehind hs0 b q hb0 hq0) (by decide) rfl ?_
      try simp (disch := omega) only [t0, f0, f1, f2, f3, f4, t1, l1, t2, l2, t3, l3, t4, l4, fn, fT, gP', xt, qt]
      refine e_icmp (t := 49) (pc' := 45) hK rfl (by first | omega | (have q1 := xz_b ox q; have q2 := xz_b oq q; have q3 := xv_b ox q; have q4 := vb_b hB b q; omega)) (by first | omega | (have q1 := xz_b ox q; have q2 := xz_b oq q; have q3 := xv_b ox q; have q4 := vb_b hB b q; omega)) (by decide) rfl (fun hb42 => ?_) (fun hb42 => ?_)
      · replace hb42 := cq_ne.1.mp hb42
        refine e_step (pc' := 51) hK rfl rfl rfl ?_
        refine e_ret hK rfl rfl rfl ?_
        refine ⟨?_, rfl, rfl⟩
        congr 1
        unfold con
        first | (rw [if_pos (by omega)]; done) | (rw [if_neg (by omega), if_pos (by omega)]; done) | (rw [if_neg (by omega), if_neg (by omega)])
      · replace hb42 := cq_ne.2.mp hb42
        refine e_step (pc' := 46) hK rfl rfl rfl ?_
        refine e_goto (t := 51) hK rfl (by decide) ?_
        refine e_ret hK rfl rfl rfl ?_
        refine ⟨?_, rfl, rfl⟩
        congr 1
        unfold con
        first | (rw [if_pos (by omega)]; done) | (rw [if_neg (by omega), if_pos (by omega)]; done) | (rw [if_neg (by omega), if_neg (by omega)])
    · replace hb25 := cq_eq.2.mp hb25
      refine e_step (pc' := 30) hK rfl rfl rfl ?_
      refine e_ret hK rfl rfl rfl ?_
      refine ⟨?_, rfl, rfl⟩
      congr 1
      unfold con
      first | (rw [if_pos (by omega)]; done) | (rw [if_neg (by omega), if_pos (by omega)]; done) | (rw [if_neg (by omega), if_neg (by omega)])
set_option maxRecDepth 10000 in
theorem c_ofLine1 {s : Int} {A : lg} (hs : StA h s A)  {l : Int} {x : xt} (hl : LnX h l x) (t pl : Int) (ht : mv_i t) (hpl : mv_i pl) : ∀ (m : Nat) (i : Nat), i + m = (xn x).toNat → mv_Ev sc 78 14 [(2, s), (2, l), (0, t), (0, pl), (0, glo A t pl), (0, 1 + lsum (cop A x t pl) i), (0, (i : Int))] [] c h (mv_Rd (0, col A x t pl) c h) := by
  intro m
  induction m with
  | zero =>
    intro i hi
    have hs0 := hs
    obtain ⟨⟨s1, s2, t0, f0, f1, f2, f3, f4, ⟨t1, l1⟩, ⟨t2, l2⟩, ⟨t3, l3⟩, ⟨t4, l4⟩, hl0⟩, hB, fn, fT, gL', gP', gS', gO'⟩ := hs
    have b1 := hB.1
    have b2 := hB.2.1
    have ox := hl.ok
    obtain ⟨n1, n2, n3, n4⟩ := xn_b hl.ok
    have xf := hl.n
    have xt := hl.tag
    have hK : (mv_m 78).1 = kc_Costs_ofLineAt := rfl
    refine e_step (pc' := 16) hK rfl rfl rfl ?_
    refine e_step (pc' := 17) hK rfl rfl rfl ?_
    refine e_getI (ci := 1) (k := 6) (pc' := 20) hK rfl (by simp (disch := omega) only [t0, f0, f1, f2, f3, f4, t1, l1, t2, l2, t3, l3, t4, l4, fn, fT, gP', xt, xf]) rfl rfl (by decide) (by decide) rfl ?_
    try simp (disch := omega) only [t0, f0, f1, f2, f3, f4, t1, l1, t2, l2, t3, l3, t4, l4, fn, fT, gP', xt, xf]
    refine e_icmp (t := 93) (pc' := 23) hK rfl (by first | omega | exact bo_i _ | (have q1 := xk_b ox (i : Int); omega)) (by first | omega | exact bo_i _ | (have q1 := xk_b ox (i : Int); omega)) (by decide) rfl (fun hb20 => ?_) (fun hb20 => ?_)
    · replace hb20 := cq_ge.1.mp hb20
      try simp only [bo_0, Bool.not_eq_false] at hb20
      refine e_step (pc' := 95) hK rfl rfl rfl ?_
      refine e_ret hK rfl rfl rfl ?_
      refine ⟨?_, rfl, rfl⟩
      congr 1
      unfold col
      rw [show (xn x).toNat = i from by omega]
    · replace hb20 := cq_ge.2.mp hb20
      try simp only [bo_0, Bool.not_eq_false] at hb20
      exfalso; first | omega | exact absurd trivial (by assumption) | (first | omega | exact bo_i _ | (have q1 := xk_b ox (i : Int); omega))
  | succ m ih =>
    intro i hi
    have hs0 := hs
    obtain ⟨⟨s1, s2, t0, f0, f1, f2, f3, f4, ⟨t1, l1⟩, ⟨t2, l2⟩, ⟨t3, l3⟩, ⟨t4, l4⟩, hl0⟩, hB, fn, fT, gL', gP', gS', gO'⟩ := hs
    have b1 := hB.1
    have b2 := hB.2.1
    have ox := hl.ok
    obtain ⟨n1, n2, n3, n4⟩ := xn_b hl.ok
    have xf := hl.n
    have xt := hl.tag
    have hK : (mv_m 78).1 = kc_Costs_ofLineAt := rfl
    refine e_step (pc' := 16) hK rfl rfl rfl ?_
    refine e_step (pc' := 17) hK rfl rfl rfl ?_
    refine e_getI (ci := 1) (k := 6) (pc' := 20) hK rfl (by simp (disch := omega) only [t0, f0, f1, f2, f3, f4, t1, l1, t2, l2, t3, l3, t4, l4, fn, fT, gP', xt, xf]) rfl rfl (by decide) (by decide) rfl ?_
    try simp (disch := omega) only [t0, f0, f1, f2, f3, f4, t1, l1, t2, l2, t3, l3, t4, l4, fn, fT, gP', xt, xf]
    refine e_icmp (t := 93) (pc' := 23) hK rfl (by first | omega | exact bo_i _ | (have q1 := xk_b ox (i : Int); omega)) (by first | omega | exact bo_i _ | (have q1 := xk_b ox (i : Int); omega)) (by decide) rfl (fun hb20 => ?_) (fun hb20 => ?_)
    · replace hb20 := cq_ge.1.mp hb20
      try simp only [bo_0, Bool.not_eq_false] at hb20
      exfalso; first | omega | exact absurd trivial (by assumption) | (first | omega | exact bo_i _ | (have q1 := xk_b ox (i : Int); omega))
    · replace hb20 := cq_ge.2.mp hb20
      try simp only [bo_0, Bool.not_eq_false] at hb20
      refine e_step (pc' := 24) hK rfl rfl rfl ?_
      refine e_step (pc' := 26) hK rfl rfl rfl ?_
      refine e_cRV2 (z := 8) (pc' := 29) hK rfl rfl (by first | (simp (disch := omega) only [t0, f0, f1, f2, f3, f4, t1, l1, t2, l2, t3, l3, t4, l4, fn, fT, gP', xt, xf]; rfl) | (show _ = 2; assumption) | (show _ = 1; assumption) | (show _ = 0; assumption) | (show _ = 3; assumption) | (show _ = 4; assumption)) rfl (Nat.le_of_ble_eq_true rfl) (Nat.le_of_ble_eq_true rfl) (x_kindAt hl _ (by omega)) (by decide) rfl ?_
      try simp (disch := omega) only [t0, f0, f1, f2, f3, f4, t1, l1, t2, l2, t3, l3, t4, l4, fn, fT, gP', xt, xf]
      refine e_step (pc' := 30) hK rfl rfl rfl ?_
      refine e_icmp (t := 50) (pc' := 33) hK rfl (by first | omega | exact bo_i _ | (have q1 := xk_b ox (i : Int); omega)) (by first | omega | exact bo_i _ | (have q1 := xk_b ox (i : Int); omega)) (by decide) rfl (fun hb30 => ?_) (fun hb30 => ?_)
      · replace hb30 := cq_ne.1.mp hb30
        try simp only [bo_0, Bool.not_eq_false] at hb30
        refine e_step (pc' := 51) hK rfl rfl rfl ?_
        refine e_step (pc' := 52) hK rfl rfl rfl ?_
        refine e_step (pc' := 54) hK rfl rfl rfl ?_
        refine e_cRV3 (z := 19) (pc' := 57) hK rfl rfl (by first | (simp (disch := omega) only [t0, f0, f1, f2, f3, f4, t1, l1, t2, l2, t3, l3, t4, l4, fn, fT, gP', xt, xf]; rfl) | (show _ = 2; assumption) | (show _ = 1; assumption) | (show _ = 0; assumption) | (show _ = 3; assumption) | (show _ = 4; assumption)) rfl (Nat.le_of_ble_eq_true rfl) (Nat.le_of_ble_eq_true rfl) (c_isOpen hs0 t _ ht (by omega)) (by decide) rfl ?_
        try simp (disch := omega) only [t0, f0, f1, f2, f3, f4, t1, l1, t2, l2, t3, l3, t4, l4, fn, fT, gP', xt, xf]
        refine e_if (t := 87) (pc' := 60) hK rfl (by first | omega | exact bo_i _ | (have q1 := xk_b ox (i : Int); omega)) (by decide) rfl (fun hb57 => ?_) (fun hb57 => ?_)
        · replace hb57 := cq_eq.1.mp hb57
          try simp only [bo_0, Bool.not_eq_false] at hb57
          refine e_step (pc' := 90) hK rfl rfl rfl ?_
          try simp only [List.set_cons_zero, List.set_cons_succ]
          refine e_goto (t := 14) hK rfl (by decide) ?_
          have e : cop A x t pl (i : Int) = _ := by { unfold cop; rw [if_neg hb30, if_neg (by rw [hb57]; decide)] }
          have q9 := ih (i + 1) (by omega)
          rw [show lsum (cop A x t pl) (i + 1) = lsum (cop A x t pl) i + cop A x t pl (i : Int) from rfl, e] at q9
          try simp only [← Int.add_assoc, Int.add_zero] at q9
          exact q9
        · replace hb57 := cq_eq.2.mp hb57
          try simp only [bo_0, Bool.not_eq_false] at hb57
          refine e_step (pc' := 62) hK rfl rfl rfl ?_
          refine e_step (pc' := 63) hK rfl rfl rfl ?_
          refine e_step (pc' := 64) hK rfl rfl rfl ?_
          refine e_step (pc' := 65) hK rfl rfl rfl ?_
          refine e_step (pc' := 67) hK rfl rfl rfl ?_
          refine e_step (pc' := 68) hK rfl rfl rfl ?_
          refine e_cRS5 (z := 84) (pc' := 71) hK rfl rfl rfl (Nat.le_of_ble_eq_true rfl) (Nat.le_of_ble_eq_true rfl) (c_seen hs0 hl t _ pl ht (by omega) hpl) (by decide) rfl ?_
          try simp (disch := omega) only [t0, f0, f1, f2, f3, f4, t1, l1, t2, l2, t3, l3, t4, l4, fn, fT, gP', xt, xf]
          refine e_if (t := 78) (pc' := 74) hK rfl (by first | omega | exact bo_i _ | (have q1 := xk_b ox (i : Int); omega)) (by decide) rfl (fun hb71 => ?_) (fun hb71 => ?_)
          · replace hb71 := cq_eq.1.mp hb71
            try simp only [bo_0, Bool.not_eq_false] at hb71
            refine e_step (pc' := 79) hK rfl rfl rfl ?_
            refine e_step (pc' := 81) hK rfl rfl rfl ?_
            refine e_cRV2 (z := 10) (pc' := 84) hK rfl rfl (by first | (simp (disch := omega) only [t0, f0, f1, f2, f3, f4, t1, l1, t2, l2, t3, l3, t4, l4, fn, fT, gP', xt, xf]; rfl) | (show _ = 2; assumption) | (show _ = 1; assumption) | (show _ = 0; assumption) | (show _ = 3; assumption) | (show _ = 4; assumption)) rfl (Nat.le_of_ble_eq_true rfl) (Nat.le_of_ble_eq_true rfl) (x_sizeAt hl _ (by omega)) (by decide) rfl ?_
            try simp (disch := omega) only [t0, f0, f1, f2, f3, f4, t1, l1, t2, l2, t3, l3, t4, l4, fn, fT, gP', xt, xf]
            refine e_step (pc' := 85) hK rfl rfl rfl ?_
            refine e_step (pc' := 87) hK rfl rfl rfl ?_
            try simp only [List.set_cons_zero, List.set_cons_succ]
            refine e_step (pc' := 90) hK rfl rfl rfl ?_
            try simp only [List.set_cons_zero, List.set_cons_succ]
            refine e_goto (t := 14) hK rfl (by decide) ?_
            have e : cop A x t pl (i : Int) = _ := by { unfold cop; rw [if_neg hb30, if_pos hb57, if_neg (by rw [hb71]; decide)] }
            have q9 := ih (i + 1) (by omega)
            rw [show lsum (cop A x t pl) (i + 1) = lsum (cop A x t pl) i + cop A x t pl (i : Int) from rfl, e] at q9
            try simp only [← Int.add_assoc, Int.add_zero] at q9
            exact q9
          · replace hb71 := cq_eq.2.mp hb71
            try simp only [bo_0, Bool.not_eq_false] at hb71
            refine e_step (pc' := 75) hK rfl rfl rfl ?_
            refine e_goto (t := 84) hK rfl (by decide) ?_
            refine e_step (pc' := 85) hK rfl rfl rfl ?_
            refine e_step (pc' := 87) hK rfl rfl rfl ?_
            try simp only [List.set_cons_zero, List.set_cons_succ]
            refine e_step (pc' := 90) hK rfl rfl rfl ?_
            try simp only [List.set_cons_zero, List.set_cons_succ]
            refine e_goto (t := 14) hK rfl (by decide) ?_
            have e : cop A x t pl (i : Int) = _ := by { unfold cop; rw [if_neg hb30, if_pos hb57, if_pos hb71] }
            have q9 := ih (i + 1) (by omega)
            rw [show lsum (cop A x t pl) (i + 1) = lsum (cop A x t pl) i + cop A x t pl (i : Int) from rfl, e] at q9
            try simp only [← Int.add_assoc, Int.add_zero] at q9
            exact q9
      · replace hb30 := cq_ne.2.mp hb30
        try simp only [bo_0, Bool.not_eq_false] at hb30
        refine e_step (pc' := 35) hK rfl rfl rfl ?_
        refine e_step (pc' := 36) hK rfl rfl rfl ?_
        refine e_step (pc' := 37) hK rfl rfl rfl ?_
        refine e_step (pc' := 39) hK rfl rfl rfl ?_
        refine e_step (pc' := 41) hK rfl rfl rfl ?_
        refine e_cRS4 (z := 79) (pc' := 44) hK rfl rfl rfl (Nat.le_of_ble_eq_true rfl) (Nat.le_of_ble_eq_true rfl) (c_ofNumber hs0 hl _ _ (by omega) (by have q1 := glo_b A t pl; omega)) (by decide) rfl ?_
        try simp (disch := omega) only [t0, f0, f1, f2, f3, f4, t1, l1, t2, l2, t3, l3, t4, l4, fn, fT, gP', xt, xf]
        refine e_step (pc' := 45) hK rfl rfl rfl ?_
        refine e_step (pc' := 47) hK rfl rfl rfl ?_
        try simp only [List.set_cons_zero, List.set_cons_succ]
        refine e_goto (t := 87) hK rfl (by decide) ?_
        refine e_step (pc' := 90) hK rfl rfl rfl ?_
        try simp only [List.set_cons_zero, List.set_cons_succ]
        refine e_goto (t := 14) hK rfl (by decide) ?_
        have e : cop A x t pl (i : Int) = _ := by { unfold cop; rw [if_pos hb30] }
        have q9 := ih (i + 1) (by omega)
        rw [show lsum (cop A x t pl) (i + 1) = lsum (cop A x t pl) i + cop A x t pl (i : Int) from rfl, e] at q9
        try simp only [← Int.add_assoc, Int.add_zero] at q9
        exact q9
set_option maxRecDepth 10000 in
theorem c_ofLine {s : Int} {A : lg} (hs : StA h s A)  {l : Int} {x : xt} (hl : LnX h l x) (t pl : Int) (ht : mv_i t) (hpl : mv_i pl) : mv_Cl sc q_Costs_ofLineAt [(2, s), (2, l), (0, t), (0, pl)] c h (mv_Rd (0, col A x t pl) c h) := by
  have hs0 := hs
  obtain ⟨⟨s1, s2, t0, f0, f1, f2, f3, f4, ⟨t1, l1⟩, ⟨t2, l2⟩, ⟨t3, l3⟩, ⟨t4, l4⟩, hl0⟩, hB, fn, fT, gL', gP', gS', gO'⟩ := hs
  have b1 := hB.1
  have b2 := hB.2.1
  have ox := hl.ok
  obtain ⟨n1, n2, n3, n4⟩ := xn_b hl.ok
  have xf := hl.n
  have xt := hl.tag
  show mv_Ev sc 78 0 [(2, s), (2, l), (0, t), (0, pl), (5, 0), (5, 0), (5, 0)] [] c h _
  have hK : (mv_m 78).1 = kc_Costs_ofLineAt := rfl
  refine e_step (pc' := 1) hK rfl rfl rfl ?_
  refine e_step (pc' := 2) hK rfl rfl rfl ?_
  refine e_step (pc' := 3) hK rfl rfl rfl ?_
  refine e_cRV3 (z := 25) (pc' := 6) hK rfl rfl (by first | (simp (disch := omega) only [t0, f0, f1, f2, f3, f4, t1, l1, t2, l2, t3, l3, t4, l4, fn, fT, gP', xt, xf]; rfl) | (show _ = 2; assumption) | (show _ = 1; assumption) | (show _ = 0; assumption) | (show _ = 3; assumption) | (show _ = 4; assumption)) rfl (Nat.le_of_ble_eq_true rfl) (Nat.le_of_ble_eq_true rfl) (c_lastOf hs0 t pl ht hpl) (by decide) rfl ?_
  try simp (disch := omega) only [t0, f0, f1, f2, f3, f4, t1, l1, t2, l2, t3, l3, t4, l4, fn, fT, gP', xt, xf]
  refine e_step (pc' := 8) hK rfl rfl rfl ?_
  try simp only [List.set_cons_zero, List.set_cons_succ]
  refine e_step (pc' := 9) hK rfl rfl rfl ?_
  refine e_step (pc' := 11) hK rfl rfl rfl ?_
  try simp only [List.set_cons_zero, List.set_cons_succ]
  refine e_step (pc' := 12) hK rfl rfl rfl ?_
  refine e_step (pc' := 14) hK rfl rfl rfl ?_
  try simp only [List.set_cons_zero, List.set_cons_succ]
  exact c_ofLine1 hs0 hl t pl ht hpl (xn x).toNat 0 (by omega)
set_option maxRecDepth 10000 in
theorem c_ofLines1 {s : Int} {A : lg} (hs : StA h s A)  : ∀ (m : Nat) (i : Nat), i + m = gn A → mv_Ev sc 81 4 [(2, s), (0, lsum (fun i => col A (gl A i) (gt A i) i) i), (0, (i : Int))] [] c h (mv_Rd (0, cols A) c h) := by
  intro m
  induction m with
  | zero =>
    intro i hi
    have hs0 := hs
    obtain ⟨⟨s1, s2, t0, f0, f1, f2, f3, f4, ⟨t1, l1⟩, ⟨t2, l2⟩, ⟨t3, l3⟩, ⟨t4, l4⟩, hl0⟩, hB, fn, fT, gL', gP', gS', gO'⟩ := hs
    have b1 := hB.1
    have b2 := hB.2.1
    have hK : (mv_m 81).1 = kc_Costs_ofLines := rfl
    refine e_step (pc' := 5) hK rfl rfl rfl ?_
    refine e_step (pc' := 6) hK rfl rfl rfl ?_
    refine e_getI (ci := 2) (k := 5) (pc' := 9) hK rfl (by simp (disch := omega) only [t0, f0, f1, f2, f3, f4, t1, l1, t2, l2, t3, l3, t4, l4, fn, fT, gP']) rfl rfl (by decide) (by decide) rfl ?_
    try simp (disch := omega) only [t0, f0, f1, f2, f3, f4, t1, l1, t2, l2, t3, l3, t4, l4, fn, fT, gP']
    refine e_icmp (t := 36) (pc' := 12) hK rfl (by omega) (by omega) (by decide) rfl (fun hb9 => ?_) (fun hb9 => ?_)
    · replace hb9 := cq_ge.1.mp hb9
      refine e_step (pc' := 37) hK rfl rfl rfl ?_
      refine e_ret hK rfl rfl rfl ?_
      refine ⟨?_, rfl, rfl⟩
      congr 1
      unfold cols
      rw [show gn A = i from by omega]
    · replace hb9 := cq_ge.2.mp hb9
      exfalso; first | omega | exact absurd trivial (by assumption)
  | succ m ih =>
    intro i hi
    have hs0 := hs
    obtain ⟨⟨s1, s2, t0, f0, f1, f2, f3, f4, ⟨t1, l1⟩, ⟨t2, l2⟩, ⟨t3, l3⟩, ⟨t4, l4⟩, hl0⟩, hB, fn, fT, gL', gP', gS', gO'⟩ := hs
    have b1 := hB.1
    have b2 := hB.2.1
    have hK : (mv_m 81).1 = kc_Costs_ofLines := rfl
    refine e_step (pc' := 5) hK rfl rfl rfl ?_
    refine e_step (pc' := 6) hK rfl rfl rfl ?_
    refine e_getI (ci := 2) (k := 5) (pc' := 9) hK rfl (by simp (disch := omega) only [t0, f0, f1, f2, f3, f4, t1, l1, t2, l2, t3, l3, t4, l4, fn, fT, gP']) rfl rfl (by decide) (by decide) rfl ?_
    try simp (disch := omega) only [t0, f0, f1, f2, f3, f4, t1, l1, t2, l2, t3, l3, t4, l4, fn, fT, gP']
    refine e_icmp (t := 36) (pc' := 12) hK rfl (by omega) (by omega) (by decide) rfl (fun hb9 => ?_) (fun hb9 => ?_)
    · replace hb9 := cq_ge.1.mp hb9
      exfalso; first | omega | exact absurd trivial (by assumption)
    · replace hb9 := cq_ge.2.mp hb9
      refine e_step (pc' := 13) hK rfl rfl rfl ?_
      refine e_step (pc' := 14) hK rfl rfl rfl ?_
      refine e_step (pc' := 15) hK rfl rfl rfl ?_
      refine e_step (pc' := 16) hK rfl rfl rfl ?_
      refine e_cRV2 (z := 26) (pc' := 19) hK rfl rfl (by first | (simp (disch := omega) only [t0, f0, f1, f2, f3, f4, t1, l1, t2, l2, t3, l3, t4, l4, fn, fT, gP']; rfl) | (show _ = 2; assumption) | (show _ = 1; assumption) | (show _ = 0; assumption) | (show _ = 3; assumption) | (show _ = 4; assumption)) rfl (Nat.le_of_ble_eq_true rfl) (Nat.le_of_ble_eq_true rfl) (c_lineAt hs0 _ (by omega)) (by decide) rfl ?_
      try simp (disch := omega) only [t0, f0, f1, f2, f3, f4, t1, l1, t2, l2, t3, l3, t4, l4, fn, fT, gP']
      refine e_step (pc' := 20) hK rfl rfl rfl ?_
      refine e_step (pc' := 21) hK rfl rfl rfl ?_
      refine e_cRV2 (z := 27) (pc' := 24) hK rfl rfl (by first | (simp (disch := omega) only [t0, f0, f1, f2, f3, f4, t1, l1, t2, l2, t3, l3, t4, l4, fn, fT, gP']; rfl) | (show _ = 2; assumption) | (show _ = 1; assumption) | (show _ = 0; assumption) | (show _ = 3; assumption) | (show _ = 4; assumption)) rfl (Nat.le_of_ble_eq_true rfl) (Nat.le_of_ble_eq_true rfl) (c_templateAt hs0 _ (by omega)) (by decide) rfl ?_
      try simp (disch := omega) only [t0, f0, f1, f2, f3, f4, t1, l1, t2, l2, t3, l3, t4, l4, fn, fT, gP']
      refine e_step (pc' := 25) hK rfl rfl rfl ?_
      refine e_cRS4 (z := 78) (pc' := 28) hK rfl rfl rfl (Nat.le_of_ble_eq_true rfl) (Nat.le_of_ble_eq_true rfl) (c_ofLine hs0 (hs0.lr _) _ _ (by have q := gt_b hB (i : Int); omega) (by omega)) (by decide) rfl ?_
      try simp (disch := omega) only [t0, f0, f1, f2, f3, f4, t1, l1, t2, l2, t3, l3, t4, l4, fn, fT, gP']
      refine e_step (pc' := 29) hK rfl rfl rfl ?_
      refine e_step (pc' := 30) hK rfl rfl rfl ?_
      try simp only [List.set_cons_zero, List.set_cons_succ]
      refine e_step (pc' := 33) hK rfl rfl rfl ?_
      try simp only [List.set_cons_zero, List.set_cons_succ]
      refine e_goto (t := 4) hK rfl (by decide) ?_
      exact ih (i + 1) (by omega)
set_option maxRecDepth 10000 in
theorem c_ofLines {s : Int} {A : lg} (hs : StA h s A)  : mv_Cl sc q_Costs_ofLines [(2, s)] c h (mv_Rd (0, cols A) c h) := by
  have hs0 := hs
  obtain ⟨⟨s1, s2, t0, f0, f1, f2, f3, f4, ⟨t1, l1⟩, ⟨t2, l2⟩, ⟨t3, l3⟩, ⟨t4, l4⟩, hl0⟩, hB, fn, fT, gL', gP', gS', gO'⟩ := hs
  have b1 := hB.1
  have b2 := hB.2.1
  show mv_Ev sc 81 0 [(2, s), (5, 0), (5, 0)] [] c h _
  have hK : (mv_m 81).1 = kc_Costs_ofLines := rfl
  refine e_step (pc' := 1) hK rfl rfl rfl ?_
  refine e_step (pc' := 2) hK rfl rfl rfl ?_
  try simp only [List.set_cons_zero, List.set_cons_succ]
  refine e_step (pc' := 3) hK rfl rfl rfl ?_
  refine e_step (pc' := 4) hK rfl rfl rfl ?_
  try simp only [List.set_cons_zero, List.set_cons_succ]
  exact c_ofLines1 hs0 (gn A) 0 (by omega)
set_option maxRecDepth 10000 in
theorem c_ofTemp1 {s : Int} {A : lg} (hs : StA h s A)  (t : Int) (ht : mv_i t) : ∀ (m : Nat) (i : Nat), i + m = (xn (gs A t)).toNat → mv_Ev sc 83 11 [(2, s), (0, t), (2, srf h s A t), (0, lsum (fun p => if csl1 A t p = true then 1 else xz (gs A t) p) i), (0, (i : Int))] [] c h (mv_Rd (0, cot A t) c h) := by
  intro m
  induction m with
  | zero =>
    intro i hi
    have hs0 := hs
    obtain ⟨⟨s1, s2, t0, f0, f1, f2, f3, f4, ⟨t1, l1⟩, ⟨t2, l2⟩, ⟨t3, l3⟩, ⟨t4, l4⟩, hl0⟩, hB, fn, fT, gL', gP', gS', gO'⟩ := hs
    have b1 := hB.1
    have b2 := hB.2.1
    have hr := hs0.sr t
    have or' := hr.ok
    obtain ⟨n1, n2, n3, n4⟩ := xn_b hr.ok
    have r1 := hr.n
    have r3 := hr.tag
    have hK : (mv_m 83).1 = kc_Costs_ofTemplate := rfl
    refine e_step (pc' := 13) hK rfl rfl rfl ?_
    refine e_step (pc' := 14) hK rfl rfl rfl ?_
    refine e_getI (ci := 1) (k := 6) (pc' := 17) hK rfl (by simp (disch := omega) only [t0, f0, f1, f2, f3, f4, t1, l1, t2, l2, t3, l3, t4, l4, fn, fT, gP', r1, r3]) rfl rfl (by decide) (by decide) rfl ?_
    try simp (disch := omega) only [t0, f0, f1, f2, f3, f4, t1, l1, t2, l2, t3, l3, t4, l4, fn, fT, gP', r1, r3]
    refine e_icmp (t := 52) (pc' := 20) hK rfl (by first | omega | exact bo_i _) (by first | omega | exact bo_i _) (by decide) rfl (fun hb17 => ?_) (fun hb17 => ?_)
    · replace hb17 := cq_ge.1.mp hb17
      try simp only [bo_0, Bool.not_eq_false] at hb17
      refine e_step (pc' := 53) hK rfl rfl rfl ?_
      refine e_ret hK rfl rfl rfl ?_
      refine ⟨?_, rfl, rfl⟩
      congr 1
      unfold cot
      rw [show (xn (gs A t)).toNat = i from by omega]
    · replace hb17 := cq_ge.2.mp hb17
      try simp only [bo_0, Bool.not_eq_false] at hb17
      exfalso; first | omega | exact absurd trivial (by assumption) | (first | omega | exact bo_i _)
  | succ m ih =>
    intro i hi
    have hs0 := hs
    obtain ⟨⟨s1, s2, t0, f0, f1, f2, f3, f4, ⟨t1, l1⟩, ⟨t2, l2⟩, ⟨t3, l3⟩, ⟨t4, l4⟩, hl0⟩, hB, fn, fT, gL', gP', gS', gO'⟩ := hs
    have b1 := hB.1
    have b2 := hB.2.1
    have hr := hs0.sr t
    have or' := hr.ok
    obtain ⟨n1, n2, n3, n4⟩ := xn_b hr.ok
    have r1 := hr.n
    have r3 := hr.tag
    have hK : (mv_m 83).1 = kc_Costs_ofTemplate := rfl
    refine e_step (pc' := 13) hK rfl rfl rfl ?_
    refine e_step (pc' := 14) hK rfl rfl rfl ?_
    refine e_getI (ci := 1) (k := 6) (pc' := 17) hK rfl (by simp (disch := omega) only [t0, f0, f1, f2, f3, f4, t1, l1, t2, l2, t3, l3, t4, l4, fn, fT, gP', r1, r3]) rfl rfl (by decide) (by decide) rfl ?_
    try simp (disch := omega) only [t0, f0, f1, f2, f3, f4, t1, l1, t2, l2, t3, l3, t4, l4, fn, fT, gP', r1, r3]
    refine e_icmp (t := 52) (pc' := 20) hK rfl (by first | omega | exact bo_i _) (by first | omega | exact bo_i _) (by decide) rfl (fun hb17 => ?_) (fun hb17 => ?_)
    · replace hb17 := cq_ge.1.mp hb17
      try simp only [bo_0, Bool.not_eq_false] at hb17
      exfalso; first | omega | exact absurd trivial (by assumption) | (first | omega | exact bo_i _)
    · replace hb17 := cq_ge.2.mp hb17
      try simp only [bo_0, Bool.not_eq_false] at hb17
      refine e_step (pc' := 21) hK rfl rfl rfl ?_
      refine e_step (pc' := 22) hK rfl rfl rfl ?_
      refine e_step (pc' := 23) hK rfl rfl rfl ?_
      refine e_step (pc' := 25) hK rfl rfl rfl ?_
      refine e_cRV3 (z := 18) (pc' := 28) hK rfl rfl (by first | (simp (disch := omega) only [t0, f0, f1, f2, f3, f4, t1, l1, t2, l2, t3, l3, t4, l4, fn, fT, gP', r1, r3]; rfl) | (show _ = 2; assumption) | (show _ = 1; assumption) | (show _ = 0; assumption) | (show _ = 3; assumption) | (show _ = 4; assumption)) rfl (Nat.le_of_ble_eq_true rfl) (Nat.le_of_ble_eq_true rfl) (c_kindIn hs0 t _ ht (by omega)) (by decide) rfl ?_
      try simp (disch := omega) only [t0, f0, f1, f2, f3, f4, t1, l1, t2, l2, t3, l3, t4, l4, fn, fT, gP', r1, r3]
      refine e_cRS1 (z := 45) (pc' := 31) hK rfl rfl rfl (Nat.le_of_ble_eq_true rfl) (Nat.le_of_ble_eq_true rfl) (c_isSlot _ (by have q := gk_b hB t (i : Int); omega)) (by decide) rfl ?_
      try simp (disch := omega) only [t0, f0, f1, f2, f3, f4, t1, l1, t2, l2, t3, l3, t4, l4, fn, fT, gP', r1, r3]
      refine e_if (t := 38) (pc' := 34) hK rfl (by first | omega | exact bo_i _) (by decide) rfl (fun hb31 => ?_) (fun hb31 => ?_)
      · replace hb31 := cq_eq.1.mp hb31
        try simp only [bo_0, Bool.not_eq_false] at hb31
        refine e_step (pc' := 39) hK rfl rfl rfl ?_
        refine e_step (pc' := 41) hK rfl rfl rfl ?_
        refine e_cRV2 (z := 10) (pc' := 44) hK rfl rfl (by first | (simp (disch := omega) only [t0, f0, f1, f2, f3, f4, t1, l1, t2, l2, t3, l3, t4, l4, fn, fT, gP', r1, r3]; rfl) | (show _ = 2; assumption) | (show _ = 1; assumption) | (show _ = 0; assumption) | (show _ = 3; assumption) | (show _ = 4; assumption)) rfl (Nat.le_of_ble_eq_true rfl) (Nat.le_of_ble_eq_true rfl) (x_sizeAt hr _ (by omega)) (by decide) rfl ?_
        try simp (disch := omega) only [t0, f0, f1, f2, f3, f4, t1, l1, t2, l2, t3, l3, t4, l4, fn, fT, gP', r1, r3]
        refine e_step (pc' := 45) hK rfl rfl rfl ?_
        refine e_step (pc' := 46) hK rfl rfl rfl ?_
        try simp only [List.set_cons_zero, List.set_cons_succ]
        refine e_step (pc' := 49) hK rfl rfl rfl ?_
        try simp only [List.set_cons_zero, List.set_cons_succ]
        refine e_goto (t := 11) hK rfl (by decide) ?_
        have q9 := ih (i + 1) (by omega)
        rw [show ∀ g : Int → Int, lsum g (i + 1) = lsum g i + g (i : Int) from fun g => rfl, show (if csl1 A t (i : Int) = true then (1 : Int) else xz (gs A t) (i : Int)) = xz (gs A t) (i : Int) from if_neg (by unfold csl1; rw [hb31]; decide)] at q9
        exact q9
      · replace hb31 := cq_eq.2.mp hb31
        try simp only [bo_0, Bool.not_eq_false] at hb31
        refine e_step (pc' := 35) hK rfl rfl rfl ?_
        refine e_goto (t := 44) hK rfl (by decide) ?_
        refine e_step (pc' := 45) hK rfl rfl rfl ?_
        refine e_step (pc' := 46) hK rfl rfl rfl ?_
        try simp only [List.set_cons_zero, List.set_cons_succ]
        refine e_step (pc' := 49) hK rfl rfl rfl ?_
        try simp only [List.set_cons_zero, List.set_cons_succ]
        refine e_goto (t := 11) hK rfl (by decide) ?_
        have q9 := ih (i + 1) (by omega)
        rw [show ∀ g : Int → Int, lsum g (i + 1) = lsum g i + g (i : Int) from fun g => rfl, show (if csl1 A t (i : Int) = true then (1 : Int) else xz (gs A t) (i : Int)) = 1 from if_pos hb31] at q9
        exact q9
set_option maxRecDepth 10000 in
theorem c_ofTemp {s : Int} {A : lg} (hs : StA h s A)  (t : Int) (ht : mv_i t) : mv_Cl sc q_Costs_ofTemplate [(2, s), (0, t)] c h (mv_Rd (0, cot A t) c h) := by
  have hs0 := hs
  obtain ⟨⟨s1, s2, t0, f0, f1, f2, f3, f4, ⟨t1, l1⟩, ⟨t2, l2⟩, ⟨t3, l3⟩, ⟨t4, l4⟩, hl0⟩, hB, fn, fT, gL', gP', gS', gO'⟩ := hs
  have b1 := hB.1
  have b2 := hB.2.1
  have hr := hs0.sr t
  have or' := hr.ok
  obtain ⟨n1, n2, n3, n4⟩ := xn_b hr.ok
  have r1 := hr.n
  have r3 := hr.tag
  show mv_Ev sc 83 0 [(2, s), (0, t), (5, 0), (5, 0), (5, 0)] [] c h _
  have hK : (mv_m 83).1 = kc_Costs_ofTemplate := rfl
  refine e_step (pc' := 1) hK rfl rfl rfl ?_
  refine e_step (pc' := 2) hK rfl rfl rfl ?_
  refine e_cRV2 (z := 17) (pc' := 5) hK rfl rfl (by first | (simp (disch := omega) only [t0, f0, f1, f2, f3, f4, t1, l1, t2, l2, t3, l3, t4, l4, fn, fT, gP', r1, r3]; rfl) | (show _ = 2; assumption) | (show _ = 1; assumption) | (show _ = 0; assumption) | (show _ = 3; assumption) | (show _ = 4; assumption)) rfl (Nat.le_of_ble_eq_true rfl) (Nat.le_of_ble_eq_true rfl) (c_sampleAt hs0 t ht) (by decide) rfl ?_
  try simp (disch := omega) only [t0, f0, f1, f2, f3, f4, t1, l1, t2, l2, t3, l3, t4, l4, fn, fT, gP', r1, r3]
  refine e_step (pc' := 6) hK rfl rfl rfl ?_
  try simp only [List.set_cons_zero, List.set_cons_succ]
  refine e_step (pc' := 7) hK rfl rfl rfl ?_
  refine e_step (pc' := 8) hK rfl rfl rfl ?_
  try simp only [List.set_cons_zero, List.set_cons_succ]
  refine e_step (pc' := 9) hK rfl rfl rfl ?_
  refine e_step (pc' := 11) hK rfl rfl rfl ?_
  try simp only [List.set_cons_zero, List.set_cons_succ]
  exact c_ofTemp1 hs0 t ht (xn (gs A t)).toNat 0 (by omega)
set_option maxRecDepth 10000 in
theorem c_ofTemps1 {s : Int} {A : lg} (hs : StA h s A)  : ∀ (m : Nat) (i : Nat), i + m = gT A → mv_Ev sc 82 4 [(2, s), (0, lsum (fun t => cot A t) i), (0, (i : Int))] [] c h (mv_Rd (0, cots A) c h) := by
  intro m
  induction m with
  | zero =>
    intro i hi
    have hs0 := hs
    obtain ⟨⟨s1, s2, t0, f0, f1, f2, f3, f4, ⟨t1, l1⟩, ⟨t2, l2⟩, ⟨t3, l3⟩, ⟨t4, l4⟩, hl0⟩, hB, fn, fT, gL', gP', gS', gO'⟩ := hs
    have b1 := hB.1
    have b2 := hB.2.1
    have hK : (mv_m 82).1 = kc_Costs_ofTemplates := rfl
    refine e_step (pc' := 5) hK rfl rfl rfl ?_
    refine e_step (pc' := 6) hK rfl rfl rfl ?_
    refine e_getI (ci := 2) (k := 6) (pc' := 9) hK rfl (by simp (disch := omega) only [t0, f0, f1, f2, f3, f4, t1, l1, t2, l2, t3, l3, t4, l4, fn, fT, gP']) rfl rfl (by decide) (by decide) rfl ?_
    try simp (disch := omega) only [t0, f0, f1, f2, f3, f4, t1, l1, t2, l2, t3, l3, t4, l4, fn, fT, gP']
    refine e_icmp (t := 26) (pc' := 12) hK rfl (by omega) (by omega) (by decide) rfl (fun hb9 => ?_) (fun hb9 => ?_)
    · replace hb9 := cq_ge.1.mp hb9
      refine e_step (pc' := 27) hK rfl rfl rfl ?_
      refine e_ret hK rfl rfl rfl ?_
      refine ⟨?_, rfl, rfl⟩
      congr 1
      unfold cots
      rw [show gT A = i from by omega]
    · replace hb9 := cq_ge.2.mp hb9
      exfalso; first | omega | exact absurd trivial (by assumption)
  | succ m ih =>
    intro i hi
    have hs0 := hs
    obtain ⟨⟨s1, s2, t0, f0, f1, f2, f3, f4, ⟨t1, l1⟩, ⟨t2, l2⟩, ⟨t3, l3⟩, ⟨t4, l4⟩, hl0⟩, hB, fn, fT, gL', gP', gS', gO'⟩ := hs
    have b1 := hB.1
    have b2 := hB.2.1
    have hK : (mv_m 82).1 = kc_Costs_ofTemplates := rfl
    refine e_step (pc' := 5) hK rfl rfl rfl ?_
    refine e_step (pc' := 6) hK rfl rfl rfl ?_
    refine e_getI (ci := 2) (k := 6) (pc' := 9) hK rfl (by simp (disch := omega) only [t0, f0, f1, f2, f3, f4, t1, l1, t2, l2, t3, l3, t4, l4, fn, fT, gP']) rfl rfl (by decide) (by decide) rfl ?_
    try simp (disch := omega) only [t0, f0, f1, f2, f3, f4, t1, l1, t2, l2, t3, l3, t4, l4, fn, fT, gP']
    refine e_icmp (t := 26) (pc' := 12) hK rfl (by omega) (by omega) (by decide) rfl (fun hb9 => ?_) (fun hb9 => ?_)
    · replace hb9 := cq_ge.1.mp hb9
      exfalso; first | omega | exact absurd trivial (by assumption)
    · replace hb9 := cq_ge.2.mp hb9
      refine e_step (pc' := 13) hK rfl rfl rfl ?_
      refine e_step (pc' := 14) hK rfl rfl rfl ?_
      refine e_step (pc' := 15) hK rfl rfl rfl ?_
      refine e_cRS2 (z := 83) (pc' := 18) hK rfl rfl rfl (Nat.le_of_ble_eq_true rfl) (Nat.le_of_ble_eq_true rfl) (c_ofTemp hs0 _ (by omega)) (by decide) rfl ?_
      try simp (disch := omega) only [t0, f0, f1, f2, f3, f4, t1, l1, t2, l2, t3, l3, t4, l4, fn, fT, gP']
      refine e_step (pc' := 19) hK rfl rfl rfl ?_
      refine e_step (pc' := 20) hK rfl rfl rfl ?_
      try simp only [List.set_cons_zero, List.set_cons_succ]
      refine e_step (pc' := 23) hK rfl rfl rfl ?_
      try simp only [List.set_cons_zero, List.set_cons_succ]
      refine e_goto (t := 4) hK rfl (by decide) ?_
      exact ih (i + 1) (by omega)
set_option maxRecDepth 10000 in
theorem c_ofTemps {s : Int} {A : lg} (hs : StA h s A)  : mv_Cl sc q_Costs_ofTemplates [(2, s)] c h (mv_Rd (0, cots A) c h) := by
  have hs0 := hs
  obtain ⟨⟨s1, s2, t0, f0, f1, f2, f3, f4, ⟨t1, l1⟩, ⟨t2, l2⟩, ⟨t3, l3⟩, ⟨t4, l4⟩, hl0⟩, hB, fn, fT, gL', gP', gS', gO'⟩ := hs
  have b1 := hB.1
  have b2 := hB.2.1
  show mv_Ev sc 82 0 [(2, s), (5, 0), (5, 0)] [] c h _
  have hK : (mv_m 82).1 = kc_Costs_ofTemplates := rfl
  refine e_step (pc' := 1) hK rfl rfl rfl ?_
  refine e_step (pc' := 2) hK rfl rfl rfl ?_
  try simp only [List.set_cons_zero, List.set_cons_succ]
  refine e_step (pc' := 3) hK rfl rfl rfl ?_
  refine e_step (pc' := 4) hK rfl rfl rfl ?_
  try simp only [List.set_cons_zero, List.set_cons_succ]
  exact c_ofTemps1 hs0 (gT A) 0 (by omega)
set_option maxRecDepth 10000 in
theorem c_ofAll {s : Int} {A : lg} (hs : StA h s A)  : mv_Cl sc q_Costs_ofAll [(2, s)] c h (mv_Rd (0, cal A) c h) := by
  have hs0 := hs
  obtain ⟨⟨s1, s2, t0, f0, f1, f2, f3, f4, ⟨t1, l1⟩, ⟨t2, l2⟩, ⟨t3, l3⟩, ⟨t4, l4⟩, hl0⟩, hB, fn, fT, gL', gP', gS', gO'⟩ := hs
  have b1 := hB.1
  have b2 := hB.2.1
  show mv_Ev sc 80 0 [(2, s)] [] c h _
  have hK : (mv_m 80).1 = kc_Costs_ofAll := rfl
  refine e_step (pc' := 1) hK rfl rfl rfl ?_
  refine e_cRS1 (z := 81) (pc' := 4) hK rfl rfl rfl (Nat.le_of_ble_eq_true rfl) (Nat.le_of_ble_eq_true rfl) (c_ofLines hs0) (by decide) rfl ?_
  try simp (disch := omega) only [t0, f0, f1, f2, f3, f4, t1, l1, t2, l2, t3, l3, t4, l4, fn, fT, gP']
  refine e_step (pc' := 5) hK rfl rfl rfl ?_
  refine e_cRS1 (z := 82) (pc' := 8) hK rfl rfl rfl (Nat.le_of_ble_eq_true rfl) (Nat.le_of_ble_eq_true rfl) (c_ofTemps hs0) (by decide) rfl ?_
  try simp (disch := omega) only [t0, f0, f1, f2, f3, f4, t1, l1, t2, l2, t3, l3, t4, l4, fn, fT, gP']
  refine e_step (pc' := 9) hK rfl rfl rfl ?_
  refine e_ret hK rfl rfl rfl ?_
  exact ⟨rfl, rfl, rfl⟩
set_option maxRecDepth 10000 in
theorem c_chars1 {s : Int} {A : lg} (hs : StA h s A)  : ∀ (m : Nat) (i : Nat), i + m = gn A → mv_Ev sc 85 4 [(2, s), (0, lsum (fun i => (gl A i).1) i), (0, (i : Int))] [] c h (mv_Rd (0, cch A) c h) := by
  intro m
  induction m with
  | zero =>
    intro i hi
    have hs0 := hs
    obtain ⟨⟨s1, s2, t0, f0, f1, f2, f3, f4, ⟨t1, l1⟩, ⟨t2, l2⟩, ⟨t3, l3⟩, ⟨t4, l4⟩, hl0⟩, hB, fn, fT, gL', gP', gS', gO'⟩ := hs
    have b1 := hB.1
    have b2 := hB.2.1
    have hq := hs0.lr ((i : Int))
    have oq := gl_ok hB ((i : Int))
    have qf := hq.n
    have qt := hq.tag
    have qn := hq.len
    have hK : (mv_m 85).1 = kc_Counts_charactersOfLines := rfl
    refine e_step (pc' := 5) hK rfl rfl rfl ?_
    refine e_step (pc' := 6) hK rfl rfl rfl ?_
    refine e_getI (ci := 2) (k := 5) (pc' := 9) hK rfl (by simp (disch := omega) only [t0, f0, f1, f2, f3, f4, t1, l1, t2, l2, t3, l3, t4, l4, fn, fT, gP', qt, qn]) rfl rfl (by decide) (by decide) rfl ?_
    try simp (disch := omega) only [t0, f0, f1, f2, f3, f4, t1, l1, t2, l2, t3, l3, t4, l4, fn, fT, gP', qt, qn]
    refine e_icmp (t := 29) (pc' := 12) hK rfl (by omega) (by omega) (by decide) rfl (fun hb9 => ?_) (fun hb9 => ?_)
    · replace hb9 := cq_ge.1.mp hb9
      refine e_step (pc' := 30) hK rfl rfl rfl ?_
      refine e_ret hK rfl rfl rfl ?_
      refine ⟨?_, rfl, rfl⟩
      congr 1
      unfold cch
      rw [show gn A = i from by omega]
    · replace hb9 := cq_ge.2.mp hb9
      exfalso; first | omega | exact absurd trivial (by assumption)
  | succ m ih =>
    intro i hi
    have hs0 := hs
    obtain ⟨⟨s1, s2, t0, f0, f1, f2, f3, f4, ⟨t1, l1⟩, ⟨t2, l2⟩, ⟨t3, l3⟩, ⟨t4, l4⟩, hl0⟩, hB, fn, fT, gL', gP', gS', gO'⟩ := hs
    have b1 := hB.1
    have b2 := hB.2.1
    have hq := hs0.lr ((i : Int))
    have oq := gl_ok hB ((i : Int))
    have qf := hq.n
    have qt := hq.tag
    have qn := hq.len
    have hK : (mv_m 85).1 = kc_Counts_charactersOfLines := rfl
    refine e_step (pc' := 5) hK rfl rfl rfl ?_
    refine e_step (pc' := 6) hK rfl rfl rfl ?_
    refine e_getI (ci := 2) (k := 5) (pc' := 9) hK rfl (by simp (disch := omega) only [t0, f0, f1, f2, f3, f4, t1, l1, t2, l2, t3, l3, t4, l4, fn, fT, gP', qt, qn]) rfl rfl (by decide) (by decide) rfl ?_
    try simp (disch := omega) only [t0, f0, f1, f2, f3, f4, t1, l1, t2, l2, t3, l3, t4, l4, fn, fT, gP', qt, qn]
    refine e_icmp (t := 29) (pc' := 12) hK rfl (by omega) (by omega) (by decide) rfl (fun hb9 => ?_) (fun hb9 => ?_)
    · replace hb9 := cq_ge.1.mp hb9
      exfalso; first | omega | exact absurd trivial (by assumption)
    · replace hb9 := cq_ge.2.mp hb9
      refine e_step (pc' := 13) hK rfl rfl rfl ?_
      refine e_step (pc' := 14) hK rfl rfl rfl ?_
      refine e_step (pc' := 15) hK rfl rfl rfl ?_
      refine e_cRV2 (z := 26) (pc' := 18) hK rfl rfl (by first | (simp (disch := omega) only [t0, f0, f1, f2, f3, f4, t1, l1, t2, l2, t3, l3, t4, l4, fn, fT, gP', qt, qn]; rfl) | (show _ = 2; assumption) | (show _ = 1; assumption) | (show _ = 0; assumption) | (show _ = 3; assumption) | (show _ = 4; assumption)) rfl (Nat.le_of_ble_eq_true rfl) (Nat.le_of_ble_eq_true rfl) (c_lineAt hs0 _ (by omega)) (by decide) rfl ?_
      try simp (disch := omega) only [t0, f0, f1, f2, f3, f4, t1, l1, t2, l2, t3, l3, t4, l4, fn, fT, gP', qt, qn]
      refine e_getI (ci := 1) (k := 5) (pc' := 21) hK rfl (by simp (disch := omega) only [t0, f0, f1, f2, f3, f4, t1, l1, t2, l2, t3, l3, t4, l4, fn, fT, gP', qt, qn]) rfl rfl (by decide) (by decide) rfl ?_
      try simp (disch := omega) only [t0, f0, f1, f2, f3, f4, t1, l1, t2, l2, t3, l3, t4, l4, fn, fT, gP', qt, qn]
      refine e_step (pc' := 22) hK rfl rfl rfl ?_
      refine e_step (pc' := 23) hK rfl rfl rfl ?_
      try simp only [List.set_cons_zero, List.set_cons_succ]
      refine e_step (pc' := 26) hK rfl rfl rfl ?_
      try simp only [List.set_cons_zero, List.set_cons_succ]
      refine e_goto (t := 4) hK rfl (by decide) ?_
      exact ih (i + 1) (by omega)
set_option maxRecDepth 10000 in
theorem c_chars {s : Int} {A : lg} (hs : StA h s A)  : mv_Cl sc q_Counts_charactersOfLines [(2, s)] c h (mv_Rd (0, cch A) c h) := by
  have hs0 := hs
  obtain ⟨⟨s1, s2, t0, f0, f1, f2, f3, f4, ⟨t1, l1⟩, ⟨t2, l2⟩, ⟨t3, l3⟩, ⟨t4, l4⟩, hl0⟩, hB, fn, fT, gL', gP', gS', gO'⟩ := hs
  have b1 := hB.1
  have b2 := hB.2.1
  show mv_Ev sc 85 0 [(2, s), (5, 0), (5, 0)] [] c h _
  have hK : (mv_m 85).1 = kc_Counts_charactersOfLines := rfl
  refine e_step (pc' := 1) hK rfl rfl rfl ?_
  refine e_step (pc' := 2) hK rfl rfl rfl ?_
  try simp only [List.set_cons_zero, List.set_cons_succ]
  refine e_step (pc' := 3) hK rfl rfl rfl ?_
  refine e_step (pc' := 4) hK rfl rfl rfl ?_
  try simp only [List.set_cons_zero, List.set_cons_succ]
  exact c_chars1 hs0 (gn A) 0 (by omega)
set_option maxRecDepth 10000 in
theorem c_slots1 {s : Int} {A : lg} (hs : StA h s A)  (t k : Int) (ht : mv_i t) (hk : mv_i k) : ∀ (m : Nat) (i : Nat), i + m = (xn (gs A t)).toNat → mv_Ev sc 87 5 [(2, s), (0, t), (0, k), (0, lc (fun p => decide (gk A t p = k)) i), (0, (i : Int))] [] c h (mv_Rd (0, csl A t k) c h) := by
  intro m
  induction m with
  | zero =>
    intro i hi
    have hs0 := hs
    obtain ⟨⟨s1, s2, t0, f0, f1, f2, f3, f4, ⟨t1, l1⟩, ⟨t2, l2⟩, ⟨t3, l3⟩, ⟨t4, l4⟩, hl0⟩, hB, fn, fT, gL', gP', gS', gO'⟩ := hs
    have b1 := hB.1
    have b2 := hB.2.1
    have hr := hs0.sr t
    have or' := hr.ok
    obtain ⟨n1, n2, n3, n4⟩ := xn_b hr.ok
    have r1 := hr.n
    have r3 := hr.tag
    have hK : (mv_m 87).1 = kc_Counts_slotsOfTemplate := rfl
    refine e_step (pc' := 7) hK rfl rfl rfl ?_
    refine e_step (pc' := 8) hK rfl rfl rfl ?_
    refine e_step (pc' := 9) hK rfl rfl rfl ?_
    refine e_cRV2 (z := 17) (pc' := 12) hK rfl rfl (by first | (simp (disch := omega) only [t0, f0, f1, f2, f3, f4, t1, l1, t2, l2, t3, l3, t4, l4, fn, fT, gP', r1, r3]; rfl) | (show _ = 2; assumption) | (show _ = 1; assumption) | (show _ = 0; assumption) | (show _ = 3; assumption) | (show _ = 4; assumption)) rfl (Nat.le_of_ble_eq_true rfl) (Nat.le_of_ble_eq_true rfl) (c_sampleAt hs0 t ht) (by decide) rfl ?_
    try simp (disch := omega) only [t0, f0, f1, f2, f3, f4, t1, l1, t2, l2, t3, l3, t4, l4, fn, fT, gP', r1, r3]
    refine e_getI (ci := 1) (k := 6) (pc' := 15) hK rfl (by simp (disch := omega) only [t0, f0, f1, f2, f3, f4, t1, l1, t2, l2, t3, l3, t4, l4, fn, fT, gP', r1, r3]) rfl rfl (by decide) (by decide) rfl ?_
    try simp (disch := omega) only [t0, f0, f1, f2, f3, f4, t1, l1, t2, l2, t3, l3, t4, l4, fn, fT, gP', r1, r3]
    refine e_icmp (t := 38) (pc' := 18) hK rfl (by first | omega | (have q := gk_b hB t (i : Int); omega)) (by first | omega | (have q := gk_b hB t (i : Int); omega)) (by decide) rfl (fun hb15 => ?_) (fun hb15 => ?_)
    · replace hb15 := cq_ge.1.mp hb15
      refine e_step (pc' := 39) hK rfl rfl rfl ?_
      refine e_ret hK rfl rfl rfl ?_
      refine ⟨?_, rfl, rfl⟩
      congr 1
      unfold csl
      rw [show (xn (gs A t)).toNat = i from by omega]
    · replace hb15 := cq_ge.2.mp hb15
      exfalso; first | omega | exact absurd trivial (by assumption) | (first | omega | (have q := gk_b hB t (i : Int); omega))
  | succ m ih =>
    intro i hi
    have hs0 := hs
    obtain ⟨⟨s1, s2, t0, f0, f1, f2, f3, f4, ⟨t1, l1⟩, ⟨t2, l2⟩, ⟨t3, l3⟩, ⟨t4, l4⟩, hl0⟩, hB, fn, fT, gL', gP', gS', gO'⟩ := hs
    have b1 := hB.1
    have b2 := hB.2.1
    have hr := hs0.sr t
    have or' := hr.ok
    obtain ⟨n1, n2, n3, n4⟩ := xn_b hr.ok
    have r1 := hr.n
    have r3 := hr.tag
    have hK : (mv_m 87).1 = kc_Counts_slotsOfTemplate := rfl
    refine e_step (pc' := 7) hK rfl rfl rfl ?_
    refine e_step (pc' := 8) hK rfl rfl rfl ?_
    refine e_step (pc' := 9) hK rfl rfl rfl ?_
    refine e_cRV2 (z := 17) (pc' := 12) hK rfl rfl (by first | (simp (disch := omega) only [t0, f0, f1, f2, f3, f4, t1, l1, t2, l2, t3, l3, t4, l4, fn, fT, gP', r1, r3]; rfl) | (show _ = 2; assumption) | (show _ = 1; assumption) | (show _ = 0; assumption) | (show _ = 3; assumption) | (show _ = 4; assumption)) rfl (Nat.le_of_ble_eq_true rfl) (Nat.le_of_ble_eq_true rfl) (c_sampleAt hs0 t ht) (by decide) rfl ?_
    try simp (disch := omega) only [t0, f0, f1, f2, f3, f4, t1, l1, t2, l2, t3, l3, t4, l4, fn, fT, gP', r1, r3]
    refine e_getI (ci := 1) (k := 6) (pc' := 15) hK rfl (by simp (disch := omega) only [t0, f0, f1, f2, f3, f4, t1, l1, t2, l2, t3, l3, t4, l4, fn, fT, gP', r1, r3]) rfl rfl (by decide) (by decide) rfl ?_
    try simp (disch := omega) only [t0, f0, f1, f2, f3, f4, t1, l1, t2, l2, t3, l3, t4, l4, fn, fT, gP', r1, r3]
    refine e_icmp (t := 38) (pc' := 18) hK rfl (by first | omega | (have q := gk_b hB t (i : Int); omega)) (by first | omega | (have q := gk_b hB t (i : Int); omega)) (by decide) rfl (fun hb15 => ?_) (fun hb15 => ?_)
    · replace hb15 := cq_ge.1.mp hb15
      exfalso; first | omega | exact absurd trivial (by assumption) | (first | omega | (have q := gk_b hB t (i : Int); omega))
    · replace hb15 := cq_ge.2.mp hb15
      refine e_step (pc' := 19) hK rfl rfl rfl ?_
      refine e_step (pc' := 20) hK rfl rfl rfl ?_
      refine e_step (pc' := 22) hK rfl rfl rfl ?_
      refine e_cRV3 (z := 18) (pc' := 25) hK rfl rfl (by first | (simp (disch := omega) only [t0, f0, f1, f2, f3, f4, t1, l1, t2, l2, t3, l3, t4, l4, fn, fT, gP', r1, r3]; rfl) | (show _ = 2; assumption) | (show _ = 1; assumption) | (show _ = 0; assumption) | (show _ = 3; assumption) | (show _ = 4; assumption)) rfl (Nat.le_of_ble_eq_true rfl) (Nat.le_of_ble_eq_true rfl) (c_kindIn hs0 t _ ht (by omega)) (by decide) rfl ?_
      try simp (disch := omega) only [t0, f0, f1, f2, f3, f4, t1, l1, t2, l2, t3, l3, t4, l4, fn, fT, gP', r1, r3]
      refine e_step (pc' := 26) hK rfl rfl rfl ?_
      refine e_icmp (t := 32) (pc' := 29) hK rfl (by first | omega | (have q := gk_b hB t (i : Int); omega)) (by first | omega | (have q := gk_b hB t (i : Int); omega)) (by decide) rfl (fun hb26 => ?_) (fun hb26 => ?_)
      · replace hb26 := cq_ne.1.mp hb26
        refine e_step (pc' := 35) hK rfl rfl rfl ?_
        try simp only [List.set_cons_zero, List.set_cons_succ]
        refine e_goto (t := 5) hK rfl (by decide) ?_
        have q9 := ih (i + 1) (by omega)
        rw [lc_f (decide_eq_false hb26)] at q9
        exact q9
      · replace hb26 := cq_ne.2.mp hb26
        refine e_step (pc' := 32) hK rfl rfl rfl ?_
        try simp only [List.set_cons_zero, List.set_cons_succ]
        refine e_step (pc' := 35) hK rfl rfl rfl ?_
        try simp only [List.set_cons_zero, List.set_cons_succ]
        refine e_goto (t := 5) hK rfl (by decide) ?_
        have q9 := ih (i + 1) (by omega)
        rw [lc_t (decide_eq_true hb26)] at q9
        exact q9
set_option maxRecDepth 10000 in
theorem c_slots {s : Int} {A : lg} (hs : StA h s A)  (t k : Int) (ht : mv_i t) (hk : mv_i k) : mv_Cl sc q_Counts_slotsOfTemplate [(2, s), (0, t), (0, k)] c h (mv_Rd (0, csl A t k) c h) := by
  have hs0 := hs
  obtain ⟨⟨s1, s2, t0, f0, f1, f2, f3, f4, ⟨t1, l1⟩, ⟨t2, l2⟩, ⟨t3, l3⟩, ⟨t4, l4⟩, hl0⟩, hB, fn, fT, gL', gP', gS', gO'⟩ := hs
  have b1 := hB.1
  have b2 := hB.2.1
  have hr := hs0.sr t
  have or' := hr.ok
  obtain ⟨n1, n2, n3, n4⟩ := xn_b hr.ok
  have r1 := hr.n
  have r3 := hr.tag
  show mv_Ev sc 87 0 [(2, s), (0, t), (0, k), (5, 0), (5, 0)] [] c h _
  have hK : (mv_m 87).1 = kc_Counts_slotsOfTemplate := rfl
  refine e_step (pc' := 1) hK rfl rfl rfl ?_
  refine e_step (pc' := 2) hK rfl rfl rfl ?_
  try simp only [List.set_cons_zero, List.set_cons_succ]
  refine e_step (pc' := 3) hK rfl rfl rfl ?_
  refine e_step (pc' := 5) hK rfl rfl rfl ?_
  try simp only [List.set_cons_zero, List.set_cons_succ]
  exact c_slots1 hs0 t k ht hk (xn (gs A t)).toNat 0 (by omega)
set_option maxRecDepth 10000 in
theorem c_slotss1 {s : Int} {A : lg} (hs : StA h s A)  (k : Int) (hk : mv_i k) : ∀ (m : Nat) (i : Nat), i + m = gT A → mv_Ev sc 86 4 [(2, s), (0, k), (0, lsum (fun t => csl A t k) i), (0, (i : Int))] [] c h (mv_Rd (0, csls A k) c h) := by
  intro m
  induction m with
  | zero =>
    intro i hi
    have hs0 := hs
    obtain ⟨⟨s1, s2, t0, f0, f1, f2, f3, f4, ⟨t1, l1⟩, ⟨t2, l2⟩, ⟨t3, l3⟩, ⟨t4, l4⟩, hl0⟩, hB, fn, fT, gL', gP', gS', gO'⟩ := hs
    have b1 := hB.1
    have b2 := hB.2.1
    have hK : (mv_m 86).1 = kc_Counts_slotsOfTemplates := rfl
    refine e_step (pc' := 5) hK rfl rfl rfl ?_
    refine e_step (pc' := 6) hK rfl rfl rfl ?_
    refine e_getI (ci := 2) (k := 6) (pc' := 9) hK rfl (by simp (disch := omega) only [t0, f0, f1, f2, f3, f4, t1, l1, t2, l2, t3, l3, t4, l4, fn, fT, gP']) rfl rfl (by decide) (by decide) rfl ?_
    try simp (disch := omega) only [t0, f0, f1, f2, f3, f4, t1, l1, t2, l2, t3, l3, t4, l4, fn, fT, gP']
    refine e_icmp (t := 27) (pc' := 12) hK rfl (by omega) (by omega) (by decide) rfl (fun hb9 => ?_) (fun hb9 => ?_)
    · replace hb9 := cq_ge.1.mp hb9
      refine e_step (pc' := 28) hK rfl rfl rfl ?_
      refine e_ret hK rfl rfl rfl ?_
      refine ⟨?_, rfl, rfl⟩
      congr 1
      unfold csls
      rw [show gT A = i from by omega]
    · replace hb9 := cq_ge.2.mp hb9
      exfalso; first | omega | exact absurd trivial (by assumption)
  | succ m ih =>
    intro i hi
    have hs0 := hs
    obtain ⟨⟨s1, s2, t0, f0, f1, f2, f3, f4, ⟨t1, l1⟩, ⟨t2, l2⟩, ⟨t3, l3⟩, ⟨t4, l4⟩, hl0⟩, hB, fn, fT, gL', gP', gS', gO'⟩ := hs
    have b1 := hB.1
    have b2 := hB.2.1
    have hK : (mv_m 86).1 = kc_Counts_slotsOfTemplates := rfl
    refine e_step (pc' := 5) hK rfl rfl rfl ?_
    refine e_step (pc' := 6) hK rfl rfl rfl ?_
    refine e_getI (ci := 2) (k := 6) (pc' := 9) hK rfl (by simp (disch := omega) only [t0, f0, f1, f2, f3, f4, t1, l1, t2, l2, t3, l3, t4, l4, fn, fT, gP']) rfl rfl (by decide) (by decide) rfl ?_
    try simp (disch := omega) only [t0, f0, f1, f2, f3, f4, t1, l1, t2, l2, t3, l3, t4, l4, fn, fT, gP']
    refine e_icmp (t := 27) (pc' := 12) hK rfl (by omega) (by omega) (by decide) rfl (fun hb9 => ?_) (fun hb9 => ?_)
    · replace hb9 := cq_ge.1.mp hb9
      exfalso; first | omega | exact absurd trivial (by assumption)
    · replace hb9 := cq_ge.2.mp hb9
      refine e_step (pc' := 13) hK rfl rfl rfl ?_
      refine e_step (pc' := 14) hK rfl rfl rfl ?_
      refine e_step (pc' := 15) hK rfl rfl rfl ?_
      refine e_step (pc' := 16) hK rfl rfl rfl ?_
      refine e_cRS3 (z := 87) (pc' := 19) hK rfl rfl rfl (Nat.le_of_ble_eq_true rfl) (Nat.le_of_ble_eq_true rfl) (c_slots hs0 _ k (by omega) hk) (by decide) rfl ?_
      try simp (disch := omega) only [t0, f0, f1, f2, f3, f4, t1, l1, t2, l2, t3, l3, t4, l4, fn, fT, gP']
      refine e_step (pc' := 20) hK rfl rfl rfl ?_
      refine e_step (pc' := 21) hK rfl rfl rfl ?_
      try simp only [List.set_cons_zero, List.set_cons_succ]
      refine e_step (pc' := 24) hK rfl rfl rfl ?_
      try simp only [List.set_cons_zero, List.set_cons_succ]
      refine e_goto (t := 4) hK rfl (by decide) ?_
      exact ih (i + 1) (by omega)
set_option maxRecDepth 10000 in
theorem c_slotss {s : Int} {A : lg} (hs : StA h s A)  (k : Int) (hk : mv_i k) : mv_Cl sc q_Counts_slotsOfTemplates [(2, s), (0, k)] c h (mv_Rd (0, csls A k) c h) := by
  have hs0 := hs
  obtain ⟨⟨s1, s2, t0, f0, f1, f2, f3, f4, ⟨t1, l1⟩, ⟨t2, l2⟩, ⟨t3, l3⟩, ⟨t4, l4⟩, hl0⟩, hB, fn, fT, gL', gP', gS', gO'⟩ := hs
  have b1 := hB.1
  have b2 := hB.2.1
  show mv_Ev sc 86 0 [(2, s), (0, k), (5, 0), (5, 0)] [] c h _
  have hK : (mv_m 86).1 = kc_Counts_slotsOfTemplates := rfl
  refine e_step (pc' := 1) hK rfl rfl rfl ?_
  refine e_step (pc' := 2) hK rfl rfl rfl ?_
  try simp only [List.set_cons_zero, List.set_cons_succ]
  refine e_step (pc' := 3) hK rfl rfl rfl ?_
  refine e_step (pc' := 4) hK rfl rfl rfl ?_
  try simp only [List.set_cons_zero, List.set_cons_succ]
  exact c_slotss1 hs0 k hk (gT A) 0 (by omega)
set_option maxRecDepth 10000 in
theorem c_before1 {s : Int} {A : lg} (hs : StA h s A)  (t pl : Int) (ht : mv_i t) (hp : mv_i pl) : ∀ (m : Nat) (i : Nat), i + m = gn A → mv_Ev sc 90 5 [(2, s), (0, t), (0, pl), (0, lc (fun i => decide (i < pl) && decide (gP A i = t)) i), (0, (i : Int))] [] c h (mv_Rd (0, clb A t pl) c h) := by
  intro m
  induction m with
  | zero =>
    intro i hi
    have hs0 := hs
    obtain ⟨⟨s1, s2, t0, f0, f1, f2, f3, f4, ⟨t1, l1⟩, ⟨t2, l2⟩, ⟨t3, l3⟩, ⟨t4, l4⟩, hl0⟩, hB, fn, fT, gL', gP', gS', gO'⟩ := hs
    have b1 := hB.1
    have b2 := hB.2.1
    have hK : (mv_m 90).1 = kc_Counts_linesBefore := rfl
    refine e_step (pc' := 7) hK rfl rfl rfl ?_
    refine e_step (pc' := 8) hK rfl rfl rfl ?_
    refine e_icmp (t := 39) (pc' := 11) hK rfl (by first | omega | (have q := gt_b hB (i : Int); omega) | (have q := hB.2.2.1 (i : Int) (by omega) (by omega); omega)) (by first | omega | (have q := gt_b hB (i : Int); omega) | (have q := hB.2.2.1 (i : Int) (by omega) (by omega); omega)) (by decide) rfl (fun hb8 => ?_) (fun hb8 => ?_)
    · replace hb8 := cq_ge.1.mp hb8
      refine e_step (pc' := 40) hK rfl rfl rfl ?_
      refine e_ret hK rfl rfl rfl ?_
      refine ⟨?_, rfl, rfl⟩
      congr 1
      unfold clb
      exact (lc_rest (by omega) (fun j h1 h2 => by first | (rw [decide_eq_false (show ¬ ((j : Nat) : Int) < pl by omega)]; rfl) | (exfalso; omega))).symm
    · replace hb8 := cq_ge.2.mp hb8
      refine e_step (pc' := 13) hK rfl rfl rfl ?_
      refine e_step (pc' := 14) hK rfl rfl rfl ?_
      refine e_getI (ci := 2) (k := 5) (pc' := 17) hK rfl (by simp (disch := omega) only [t0, f0, f1, f2, f3, f4, t1, l1, t2, l2, t3, l3, t4, l4, fn, fT, gP']) rfl rfl (by decide) (by decide) rfl ?_
      try simp (disch := omega) only [t0, f0, f1, f2, f3, f4, t1, l1, t2, l2, t3, l3, t4, l4, fn, fT, gP']
      refine e_icmp (t := 39) (pc' := 20) hK rfl (by first | omega | (have q := gt_b hB (i : Int); omega) | (have q := hB.2.2.1 (i : Int) (by omega) (by omega); omega)) (by first | omega | (have q := gt_b hB (i : Int); omega) | (have q := hB.2.2.1 (i : Int) (by omega) (by omega); omega)) (by decide) rfl (fun hb17 => ?_) (fun hb17 => ?_)
      · replace hb17 := cq_ge.1.mp hb17
        refine e_step (pc' := 40) hK rfl rfl rfl ?_
        refine e_ret hK rfl rfl rfl ?_
        refine ⟨?_, rfl, rfl⟩
        congr 1
        unfold clb
        exact (lc_rest (by omega) (fun j h1 h2 => by first | (rw [decide_eq_false (show ¬ ((j : Nat) : Int) < pl by omega)]; rfl) | (exfalso; omega))).symm
      · replace hb17 := cq_ge.2.mp hb17
        exfalso; first | omega | exact absurd trivial (by assumption) | (first | omega | (have q := gt_b hB (i : Int); omega) | (have q := hB.2.2.1 (i : Int) (by omega) (by omega); omega))
  | succ m ih =>
    intro i hi
    have hs0 := hs
    obtain ⟨⟨s1, s2, t0, f0, f1, f2, f3, f4, ⟨t1, l1⟩, ⟨t2, l2⟩, ⟨t3, l3⟩, ⟨t4, l4⟩, hl0⟩, hB, fn, fT, gL', gP', gS', gO'⟩ := hs
    have b1 := hB.1
    have b2 := hB.2.1
    have hK : (mv_m 90).1 = kc_Counts_linesBefore := rfl
    refine e_step (pc' := 7) hK rfl rfl rfl ?_
    refine e_step (pc' := 8) hK rfl rfl rfl ?_
    refine e_icmp (t := 39) (pc' := 11) hK rfl (by first | omega | (have q := gt_b hB (i : Int); omega) | (have q := hB.2.2.1 (i : Int) (by omega) (by omega); omega)) (by first | omega | (have q := gt_b hB (i : Int); omega) | (have q := hB.2.2.1 (i : Int) (by omega) (by omega); omega)) (by decide) rfl (fun hb8 => ?_) (fun hb8 => ?_)
    · replace hb8 := cq_ge.1.mp hb8
      refine e_step (pc' := 40) hK rfl rfl rfl ?_
      refine e_ret hK rfl rfl rfl ?_
      refine ⟨?_, rfl, rfl⟩
      congr 1
      unfold clb
      exact (lc_rest (by omega) (fun j h1 h2 => by first | (rw [decide_eq_false (show ¬ ((j : Nat) : Int) < pl by omega)]; rfl) | (exfalso; omega))).symm
    · replace hb8 := cq_ge.2.mp hb8
      refine e_step (pc' := 13) hK rfl rfl rfl ?_
      refine e_step (pc' := 14) hK rfl rfl rfl ?_
      refine e_getI (ci := 2) (k := 5) (pc' := 17) hK rfl (by simp (disch := omega) only [t0, f0, f1, f2, f3, f4, t1, l1, t2, l2, t3, l3, t4, l4, fn, fT, gP']) rfl rfl (by decide) (by decide) rfl ?_
      try simp (disch := omega) only [t0, f0, f1, f2, f3, f4, t1, l1, t2, l2, t3, l3, t4, l4, fn, fT, gP']
      refine e_icmp (t := 39) (pc' := 20) hK rfl (by first | omega | (have q := gt_b hB (i : Int); omega) | (have q := hB.2.2.1 (i : Int) (by omega) (by omega); omega)) (by first | omega | (have q := gt_b hB (i : Int); omega) | (have q := hB.2.2.1 (i : Int) (by omega) (by omega); omega)) (by decide) rfl (fun hb17 => ?_) (fun hb17 => ?_)
      · replace hb17 := cq_ge.1.mp hb17
        exfalso; first | omega | exact absurd trivial (by assumption) | (first | omega | (have q := gt_b hB (i : Int); omega) | (have q := hB.2.2.1 (i : Int) (by omega) (by omega); omega))
      · replace hb17 := cq_ge.2.mp hb17
        refine e_step (pc' := 21) hK rfl rfl rfl ?_
        refine e_step (pc' := 23) hK rfl rfl rfl ?_
        refine e_cRV2 (z := 27) (pc' := 26) hK rfl rfl (by first | (simp (disch := omega) only [t0, f0, f1, f2, f3, f4, t1, l1, t2, l2, t3, l3, t4, l4, fn, fT, gP']; rfl) | (show _ = 2; assumption) | (show _ = 1; assumption) | (show _ = 0; assumption) | (show _ = 3; assumption) | (show _ = 4; assumption)) rfl (Nat.le_of_ble_eq_true rfl) (Nat.le_of_ble_eq_true rfl) (c_templateAt hs0 _ (by omega)) (by decide) rfl ?_
        try simp (disch := omega) only [t0, f0, f1, f2, f3, f4, t1, l1, t2, l2, t3, l3, t4, l4, fn, fT, gP']
        rw [show gt A (i : Int) = gP A (i : Int) from if_pos (by omega)]
        refine e_step (pc' := 27) hK rfl rfl rfl ?_
        refine e_icmp (t := 33) (pc' := 30) hK rfl (by first | omega | (have q := gt_b hB (i : Int); omega) | (have q := hB.2.2.1 (i : Int) (by omega) (by omega); omega)) (by first | omega | (have q := gt_b hB (i : Int); omega) | (have q := hB.2.2.1 (i : Int) (by omega) (by omega); omega)) (by decide) rfl (fun hb27 => ?_) (fun hb27 => ?_)
        · replace hb27 := cq_ne.1.mp hb27
          refine e_step (pc' := 36) hK rfl rfl rfl ?_
          try simp only [List.set_cons_zero, List.set_cons_succ]
          refine e_goto (t := 5) hK rfl (by decide) ?_
          have q9 := ih (i + 1) (by omega)
          rw [lc_f (by rw [decide_eq_false hb27, Bool.and_false])] at q9
          exact q9
        · replace hb27 := cq_ne.2.mp hb27
          refine e_step (pc' := 33) hK rfl rfl rfl ?_
          try simp only [List.set_cons_zero, List.set_cons_succ]
          refine e_step (pc' := 36) hK rfl rfl rfl ?_
          try simp only [List.set_cons_zero, List.set_cons_succ]
          refine e_goto (t := 5) hK rfl (by decide) ?_
          have q9 := ih (i + 1) (by omega)
          rw [lc_t (by rw [decide_eq_true hb27, decide_eq_true hb8]; rfl)] at q9
          exact q9
set_option maxRecDepth 10000 in
theorem c_before {s : Int} {A : lg} (hs : StA h s A)  (t pl : Int) (ht : mv_i t) (hp : mv_i pl) : mv_Cl sc q_Counts_linesBefore [(2, s), (0, t), (0, pl)] c h (mv_Rd (0, clb A t pl) c h) := by
  have hs0 := hs
  obtain ⟨⟨s1, s2, t0, f0, f1, f2, f3, f4, ⟨t1, l1⟩, ⟨t2, l2⟩, ⟨t3, l3⟩, ⟨t4, l4⟩, hl0⟩, hB, fn, fT, gL', gP', gS', gO'⟩ := hs
  have b1 := hB.1
  have b2 := hB.2.1
  show mv_Ev sc 90 0 [(2, s), (0, t), (0, pl), (5, 0), (5, 0)] [] c h _
  have hK : (mv_m 90).1 = kc_Counts_linesBefore := rfl
  refine e_step (pc' := 1) hK rfl rfl rfl ?_
  refine e_step (pc' := 2) hK rfl rfl rfl ?_
  try simp only [List.set_cons_zero, List.set_cons_succ]
  refine e_step (pc' := 3) hK rfl rfl rfl ?_
  refine e_step (pc' := 5) hK rfl rfl rfl ?_
  try simp only [List.set_cons_zero, List.set_cons_succ]
  exact c_before1 hs0 t pl ht hp (gn A) 0 (by omega)
end CO
