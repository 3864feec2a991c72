/-! the face: questions (written by wip/whole/m61.py) -/
section FA
variable {sc : Int × (Int → Int)} {c : mv_C} {h : mv_H}
set_option maxRecDepth 10000 in
theorem f_checkLine {m : Nat} {W : wt} (hL : LtA m h W) (i : Int) (hi : mv_i i) : mv_Cl sc q_LT_checkLine [(2, 0), (0, i)] c h (fun r c' h' => h' = h ∧ (((0 ≤ i ∧ i < gn (wA W)) ∧ r = (3, 0) ∧ c' = c) ∨ (¬ (0 ≤ i ∧ i < gn (wA W)) ∧ r = (4, 2) ∧ c' = cck 1 c))) := by
  have hL0 := hL
  obtain ⟨⟨⟨t00, p0, p2, p3, p4, p5, p6, p7, p8, p9, t14, l14, g14, t252, l252, g252a, g252b, t263, l263⟩, hTx, hA, hH, hS0, hS1, hSv, hm, hgR, hgRn, hgRs⟩, hsc⟩ := hL
  have hA0 := hA
  obtain ⟨⟨s1, s2, a0, -, -, -, -, -, -, -, -, -, -⟩, hB, an, aT, -⟩ := hA
  have bn := hB.1
  have bT := hB.2.1
  show mv_Ev sc 53 0 [(2, 0), (0, i)] [] c h _
  have hK : (mv_m 53).1 = kc_LT_checkLine := rfl
  refine e_step (pc' := 1) hK rfl rfl rfl ?_
  refine e_if (t := 15) (pc' := 4) hK rfl (by omega) (by decide) rfl (fun hb1 => ?_) (fun hb1 => ?_)
  · replace hb1 := cq_lt.1.mp hb1
    refine e_thr (E := 2) hK rfl rfl rfl rfl ?_
    exact ⟨rfl, Or.inr ⟨by omega, rfl, rfl⟩⟩
  · replace hb1 := cq_lt.2.mp hb1
    refine e_step (pc' := 5) hK rfl rfl rfl ?_
    refine e_step (pc' := 6) hK rfl rfl rfl ?_
    refine e_getR (ci := 0) (k := 4) (pc' := 9) hK rfl (by simp (disch := omega) only [t00, p0, p2, p3, p4, p5, p6, p7, p8, p9, a0, an, aT]) rfl rfl (by decide) (by decide) (by (try simp (disch := omega) only [t00, p0, p2, p3, p4, p5, p6, p7, p8, p9, a0, an, aT]); omega) rfl ?_
    try simp (disch := omega) only [t00, p0, p2, p3, p4, p5, p6, p7, p8, p9, a0, an, aT]
    refine e_getI (ci := 2) (k := 5) (pc' := 12) hK rfl (by simp (disch := omega) only [t00, p0, p2, p3, p4, p5, p6, p7, p8, p9, a0, an, aT]) rfl rfl (by decide) (by decide) rfl ?_
    try simp (disch := omega) only [t00, p0, p2, p3, p4, p5, p6, p7, p8, p9, a0, an, aT]
    refine e_icmp (t := 26) (pc' := 15) hK rfl (by omega) (by omega) (by decide) rfl (fun hb12 => ?_) (fun hb12 => ?_)
    · replace hb12 := cq_lt.1.mp hb12
      refine e_ret hK rfl rfl rfl ?_
      exact ⟨rfl, Or.inl ⟨⟨by omega, by omega⟩, rfl, rfl⟩⟩
    · replace hb12 := cq_lt.2.mp hb12
      refine e_thr (E := 2) hK rfl rfl rfl rfl ?_
      exact ⟨rfl, Or.inr ⟨by omega, rfl, rfl⟩⟩
set_option maxRecDepth 10000 in
theorem f_checkTemp {m : Nat} {W : wt} (hL : LtA m h W) (i : Int) (hi : mv_i i) : mv_Cl sc q_LT_checkTemplate [(2, 0), (0, i)] c h (fun r c' h' => h' = h ∧ (((0 ≤ i ∧ i < gT (wA W)) ∧ r = (3, 0) ∧ c' = c) ∨ (¬ (0 ≤ i ∧ i < gT (wA W)) ∧ r = (4, 2) ∧ c' = cck 1 c))) := by
  have hL0 := hL
  obtain ⟨⟨⟨t00, p0, p2, p3, p4, p5, p6, p7, p8, p9, t14, l14, g14, t252, l252, g252a, g252b, t263, l263⟩, hTx, hA, hH, hS0, hS1, hSv, hm, hgR, hgRn, hgRs⟩, hsc⟩ := hL
  have hA0 := hA
  obtain ⟨⟨s1, s2, a0, -, -, -, -, -, -, -, -, -, -⟩, hB, an, aT, -⟩ := hA
  have bn := hB.1
  have bT := hB.2.1
  show mv_Ev sc 58 0 [(2, 0), (0, i)] [] c h _
  have hK : (mv_m 58).1 = kc_LT_checkTemplate := rfl
  refine e_step (pc' := 1) hK rfl rfl rfl ?_
  refine e_if (t := 15) (pc' := 4) hK rfl (by omega) (by decide) rfl (fun hb1 => ?_) (fun hb1 => ?_)
  · replace hb1 := cq_lt.1.mp hb1
    refine e_thr (E := 2) hK rfl rfl rfl rfl ?_
    exact ⟨rfl, Or.inr ⟨by omega, rfl, rfl⟩⟩
  · replace hb1 := cq_lt.2.mp hb1
    refine e_step (pc' := 5) hK rfl rfl rfl ?_
    refine e_step (pc' := 6) hK rfl rfl rfl ?_
    refine e_getR (ci := 0) (k := 4) (pc' := 9) hK rfl (by simp (disch := omega) only [t00, p0, p2, p3, p4, p5, p6, p7, p8, p9, a0, an, aT]) rfl rfl (by decide) (by decide) (by (try simp (disch := omega) only [t00, p0, p2, p3, p4, p5, p6, p7, p8, p9, a0, an, aT]); omega) rfl ?_
    try simp (disch := omega) only [t00, p0, p2, p3, p4, p5, p6, p7, p8, p9, a0, an, aT]
    refine e_getI (ci := 2) (k := 6) (pc' := 12) hK rfl (by simp (disch := omega) only [t00, p0, p2, p3, p4, p5, p6, p7, p8, p9, a0, an, aT]) rfl rfl (by decide) (by decide) rfl ?_
    try simp (disch := omega) only [t00, p0, p2, p3, p4, p5, p6, p7, p8, p9, a0, an, aT]
    refine e_icmp (t := 26) (pc' := 15) hK rfl (by omega) (by omega) (by decide) rfl (fun hb12 => ?_) (fun hb12 => ?_)
    · replace hb12 := cq_lt.1.mp hb12
      refine e_ret hK rfl rfl rfl ?_
      exact ⟨rfl, Or.inl ⟨⟨by omega, by omega⟩, rfl, rfl⟩⟩
    · replace hb12 := cq_lt.2.mp hb12
      refine e_thr (E := 2) hK rfl rfl rfl rfl ?_
      exact ⟨rfl, Or.inr ⟨by omega, rfl, rfl⟩⟩
set_option maxRecDepth 10000 in
theorem f_checkPiece {l : Int} {x : xt} (hl : LnX h l x) (i : Int) (hi : mv_i i) : mv_Cl sc q_LT_checkPiece [(2, l), (0, i)] c h (fun r c' h' => h' = h ∧ (((0 ≤ i ∧ i < xn x) ∧ r = (3, 0) ∧ c' = c) ∨ (¬ (0 ≤ i ∧ i < xn x) ∧ r = (4, 2) ∧ c' = cck 1 c))) := by
  have tl := hl.tag
  have ln := hl.n
  have b := xn_b hl.ok
  show mv_Ev sc 56 0 [(2, l), (0, i)] [] c h _
  have hK : (mv_m 56).1 = kc_LT_checkPiece := rfl
  refine e_step (pc' := 1) hK rfl rfl rfl ?_
  refine e_if (t := 12) (pc' := 4) hK rfl (by omega) (by decide) rfl (fun hb1 => ?_) (fun hb1 => ?_)
  · replace hb1 := cq_lt.1.mp hb1
    refine e_thr (E := 2) hK rfl rfl rfl rfl ?_
    exact ⟨rfl, Or.inr ⟨by omega, rfl, rfl⟩⟩
  · replace hb1 := cq_lt.2.mp hb1
    refine e_step (pc' := 5) hK rfl rfl rfl ?_
    refine e_step (pc' := 6) hK rfl rfl rfl ?_
    refine e_getI (ci := 1) (k := 6) (pc' := 9) hK rfl (by simp (disch := omega) only [tl, ln]) rfl rfl (by decide) (by decide) rfl ?_
    try simp (disch := omega) only [tl, ln]
    refine e_icmp (t := 23) (pc' := 12) hK rfl (by omega) (by omega) (by decide) rfl (fun hb9 => ?_) (fun hb9 => ?_)
    · replace hb9 := cq_lt.1.mp hb9
      refine e_ret hK rfl rfl rfl ?_
      exact ⟨rfl, Or.inl ⟨⟨by omega, by omega⟩, rfl, rfl⟩⟩
    · replace hb9 := cq_lt.2.mp hb9
      refine e_thr (E := 2) hK rfl rfl rfl rfl ?_
      exact ⟨rfl, Or.inr ⟨by omega, rfl, rfl⟩⟩
set_option maxRecDepth 10000 in
theorem f_checkSlot (i : Int) (hi : mv_i i) : mv_Cl sc q_LT_checkSlot [(0, i)] c h (fun r c' h' => h' = h ∧ (((0 ≤ i ∧ i < 2) ∧ r = (3, 0) ∧ c' = c) ∨ (¬ (0 ≤ i ∧ i < 2) ∧ r = (4, 2) ∧ c' = cck 1 c))) := by
  show mv_Ev sc 76 0 [(0, i)] [] c h _
  have hK : (mv_m 76).1 = kc_LT_checkSlot := rfl
  refine e_step (pc' := 1) hK rfl rfl rfl ?_
  refine e_if (t := 9) (pc' := 4) hK rfl (by omega) (by decide) rfl (fun hb1 => ?_) (fun hb1 => ?_)
  · replace hb1 := cq_lt.1.mp hb1
    refine e_thr (E := 2) hK rfl rfl rfl rfl ?_
    exact ⟨rfl, Or.inr ⟨by omega, rfl, rfl⟩⟩
  · replace hb1 := cq_lt.2.mp hb1
    refine e_step (pc' := 5) hK rfl rfl rfl ?_
    refine e_step (pc' := 6) hK rfl rfl rfl ?_
    refine e_icmp (t := 20) (pc' := 9) hK rfl (by omega) (by omega) (by decide) rfl (fun hb6 => ?_) (fun hb6 => ?_)
    · replace hb6 := cq_lt.1.mp hb6
      refine e_ret hK rfl rfl rfl ?_
      exact ⟨rfl, Or.inl ⟨⟨by omega, by omega⟩, rfl, rfl⟩⟩
    · replace hb6 := cq_lt.2.mp hb6
      refine e_thr (E := 2) hK rfl rfl rfl rfl ?_
      exact ⟨rfl, Or.inr ⟨by omega, rfl, rfl⟩⟩
set_option maxRecDepth 10000 in
theorem f_about {m : Nat} {W : wt} (hL : LtA m h W) (x : Int) (hx : mv_i x) : mv_Cl sc q_LT_about [(2, 0), (0, x)] c h (fun r c' h' => r = clr 0 9 (sp_about W x).1 (sp_about W x).2.1 ∧ c' = cck (sp_about W x).1 c ∧ h' = h ∧ mv_i (sp_about W x).2.1) := by
  have hL0 := hL
  obtain ⟨⟨⟨t00, p0, p2, p3, p4, p5, p6, p7, p8, p9, t14, l14, g14, t252, l252, g252a, g252b, t263, l263⟩, hTx, hA, hH, hS0, hS1, hSv, hm, hgR, hgRn, hgRs⟩, hsc⟩ := hL
  have hA0 := hA
  obtain ⟨⟨s1, s2, a0, -, -, -, -, -, -, -, -, -, -⟩, hB, an, aT, -⟩ := hA
  have bn := hB.1
  have bT := hB.2.1
  show mv_Ev sc 51 0 [(2, 0), (0, x)] [] c h _
  have hK : (mv_m 51).1 = kc_LT_about := rfl
  refine e_step (pc' := 1) hK rfl rfl rfl ?_
  refine e_tsw (td := 114) hK rfl (by first | omega) rfl (by decide) (by decide) (fun hb1 => ?_) (fun j hj hb1 => ?_)
  · skip
    refine e_thr (E := 0) hK rfl rfl rfl rfl ?_
    have e9 : sp_about W x = (1, 0, W) := by { unfold sp_about; (repeat (first | rw [if_pos (by omega)] | rw [if_neg (by omega)])) }
    rw [e9]
    refine ⟨rfl, rfl, rfl, ?_⟩
    dsimp only
    omega
  · skip
    rcases j with _ | j
    · show mv_Ev _ _ 48 _ _ _ _ _
      refine e_step (pc' := 49) hK rfl rfl rfl ?_
      refine e_getR (ci := 0) (k := 4) (pc' := 52) hK rfl (by simp (disch := omega) only [t00, p0, p2, p3, p4, p5, p6, p7, p8, p9, a0, an, aT]) rfl rfl (by decide) (by decide) (by (try simp (disch := omega) only [t00, p0, p2, p3, p4, p5, p6, p7, p8, p9, a0, an, aT]); first | omega) rfl ?_
      try simp (disch := omega) only [t00, p0, p2, p3, p4, p5, p6, p7, p8, p9, a0, an, aT]
      refine e_getI (ci := 2) (k := 5) (pc' := 55) hK rfl (by simp (disch := omega) only [t00, p0, p2, p3, p4, p5, p6, p7, p8, p9, a0, an, aT]) rfl rfl (by decide) (by decide) rfl ?_
      try simp (disch := omega) only [t00, p0, p2, p3, p4, p5, p6, p7, p8, p9, a0, an, aT]
      refine e_ret hK rfl rfl rfl ?_
      have e9 : sp_about W x = (0, ((gn (wA W) : Nat) : Int), W) := by { unfold sp_about; (repeat (first | rw [if_pos (by omega)] | rw [if_neg (by omega)])) }
      rw [e9]
      refine ⟨rfl, rfl, rfl, ?_⟩
      dsimp only
      omega
    · skip
      rcases j with _ | j
      · show mv_Ev _ _ 56 _ _ _ _ _
        refine e_step (pc' := 57) hK rfl rfl rfl ?_
        refine e_getR (ci := 0) (k := 4) (pc' := 60) hK rfl (by simp (disch := omega) only [t00, p0, p2, p3, p4, p5, p6, p7, p8, p9, a0, an, aT]) rfl rfl (by decide) (by decide) (by (try simp (disch := omega) only [t00, p0, p2, p3, p4, p5, p6, p7, p8, p9, a0, an, aT]); first | omega) rfl ?_
        try simp (disch := omega) only [t00, p0, p2, p3, p4, p5, p6, p7, p8, p9, a0, an, aT]
        refine e_getI (ci := 2) (k := 6) (pc' := 63) hK rfl (by simp (disch := omega) only [t00, p0, p2, p3, p4, p5, p6, p7, p8, p9, a0, an, aT]) rfl rfl (by decide) (by decide) rfl ?_
        try simp (disch := omega) only [t00, p0, p2, p3, p4, p5, p6, p7, p8, p9, a0, an, aT]
        refine e_ret hK rfl rfl rfl ?_
        have e9 : sp_about W x = (0, ((gT (wA W) : Nat) : Int), W) := by { unfold sp_about; (repeat (first | rw [if_pos (by omega)] | rw [if_neg (by omega)])) }
        rw [e9]
        refine ⟨rfl, rfl, rfl, ?_⟩
        dsimp only
        omega
      · skip
        rcases j with _ | j
        · show mv_Ev _ _ 64 _ _ _ _ _
          refine e_step (pc' := 65) hK rfl rfl rfl ?_
          refine e_getR (ci := 0) (k := 4) (pc' := 68) hK rfl (by simp (disch := omega) only [t00, p0, p2, p3, p4, p5, p6, p7, p8, p9, a0, an, aT]) rfl rfl (by decide) (by decide) (by (try simp (disch := omega) only [t00, p0, p2, p3, p4, p5, p6, p7, p8, p9, a0, an, aT]); first | omega) rfl ?_
          try simp (disch := omega) only [t00, p0, p2, p3, p4, p5, p6, p7, p8, p9, a0, an, aT]
          refine e_cRS1 (z := 85) (pc' := 71) hK rfl rfl rfl (Nat.le_of_ble_eq_true rfl) (Nat.le_of_ble_eq_true rfl) (c_chars hA0) (by decide) rfl ?_
          try simp (disch := omega) only [t00, p0, p2, p3, p4, p5, p6, p7, p8, p9, a0, an, aT]
          refine e_ret hK rfl rfl rfl ?_
          have e9 : sp_about W x = (0, cch (wA W), W) := by { unfold sp_about; (repeat (first | rw [if_pos (by omega)] | rw [if_neg (by omega)])) }
          rw [e9]
          refine ⟨rfl, rfl, rfl, ?_⟩
          dsimp only
          have := cch_b hB; omega
        · skip
          rcases j with _ | j
          · show mv_Ev _ _ 72 _ _ _ _ _
            refine e_step (pc' := 73) hK rfl rfl rfl ?_
            refine e_getR (ci := 0) (k := 4) (pc' := 76) hK rfl (by simp (disch := omega) only [t00, p0, p2, p3, p4, p5, p6, p7, p8, p9, a0, an, aT]) rfl rfl (by decide) (by decide) (by (try simp (disch := omega) only [t00, p0, p2, p3, p4, p5, p6, p7, p8, p9, a0, an, aT]); first | omega) rfl ?_
            try simp (disch := omega) only [t00, p0, p2, p3, p4, p5, p6, p7, p8, p9, a0, an, aT]
            refine e_cRS1 (z := 81) (pc' := 79) hK rfl rfl rfl (Nat.le_of_ble_eq_true rfl) (Nat.le_of_ble_eq_true rfl) (c_ofLines hA0) (by decide) rfl ?_
            try simp (disch := omega) only [t00, p0, p2, p3, p4, p5, p6, p7, p8, p9, a0, an, aT]
            refine e_ret hK rfl rfl rfl ?_
            have e9 : sp_about W x = (0, cols (wA W), W) := by { unfold sp_about; (repeat (first | rw [if_pos (by omega)] | rw [if_neg (by omega)])) }
            rw [e9]
            refine ⟨rfl, rfl, rfl, ?_⟩
            dsimp only
            have := cols_b hB; omega
          · skip
            rcases j with _ | j
            · show mv_Ev _ _ 80 _ _ _ _ _
              refine e_step (pc' := 81) hK rfl rfl rfl ?_
              refine e_getR (ci := 0) (k := 4) (pc' := 84) hK rfl (by simp (disch := omega) only [t00, p0, p2, p3, p4, p5, p6, p7, p8, p9, a0, an, aT]) rfl rfl (by decide) (by decide) (by (try simp (disch := omega) only [t00, p0, p2, p3, p4, p5, p6, p7, p8, p9, a0, an, aT]); first | omega) rfl ?_
              try simp (disch := omega) only [t00, p0, p2, p3, p4, p5, p6, p7, p8, p9, a0, an, aT]
              refine e_cRS1 (z := 82) (pc' := 87) hK rfl rfl rfl (Nat.le_of_ble_eq_true rfl) (Nat.le_of_ble_eq_true rfl) (c_ofTemps hA0) (by decide) rfl ?_
              try simp (disch := omega) only [t00, p0, p2, p3, p4, p5, p6, p7, p8, p9, a0, an, aT]
              refine e_ret hK rfl rfl rfl ?_
              have e9 : sp_about W x = (0, cots (wA W), W) := by { unfold sp_about; (repeat (first | rw [if_pos (by omega)] | rw [if_neg (by omega)])) }
              rw [e9]
              refine ⟨rfl, rfl, rfl, ?_⟩
              dsimp only
              have := cots_b hB; omega
            · skip
              rcases j with _ | j
              · show mv_Ev _ _ 88 _ _ _ _ _
                refine e_step (pc' := 89) hK rfl rfl rfl ?_
                refine e_getR (ci := 0) (k := 4) (pc' := 92) hK rfl (by simp (disch := omega) only [t00, p0, p2, p3, p4, p5, p6, p7, p8, p9, a0, an, aT]) rfl rfl (by decide) (by decide) (by (try simp (disch := omega) only [t00, p0, p2, p3, p4, p5, p6, p7, p8, p9, a0, an, aT]); first | omega) rfl ?_
                try simp (disch := omega) only [t00, p0, p2, p3, p4, p5, p6, p7, p8, p9, a0, an, aT]
                refine e_step (pc' := 93) hK rfl rfl rfl ?_
                refine e_cRS2 (z := 86) (pc' := 96) hK rfl rfl rfl (Nat.le_of_ble_eq_true rfl) (Nat.le_of_ble_eq_true rfl) (c_slotss hA0 3 (by omega)) (by decide) rfl ?_
                try simp (disch := omega) only [t00, p0, p2, p3, p4, p5, p6, p7, p8, p9, a0, an, aT]
                refine e_ret hK rfl rfl rfl ?_
                have e9 : sp_about W x = (0, csls (wA W) 3, W) := by { unfold sp_about; (repeat (first | rw [if_pos (by omega)] | rw [if_neg (by omega)])) }
                rw [e9]
                refine ⟨rfl, rfl, rfl, ?_⟩
                dsimp only
                have := csls_b hB 3; omega
              · skip
                rcases j with _ | j
                · show mv_Ev _ _ 97 _ _ _ _ _
                  refine e_step (pc' := 98) hK rfl rfl rfl ?_
                  refine e_getR (ci := 0) (k := 4) (pc' := 101) hK rfl (by simp (disch := omega) only [t00, p0, p2, p3, p4, p5, p6, p7, p8, p9, a0, an, aT]) rfl rfl (by decide) (by decide) (by (try simp (disch := omega) only [t00, p0, p2, p3, p4, p5, p6, p7, p8, p9, a0, an, aT]); first | omega) rfl ?_
                  try simp (disch := omega) only [t00, p0, p2, p3, p4, p5, p6, p7, p8, p9, a0, an, aT]
                  refine e_step (pc' := 102) hK rfl rfl rfl ?_
                  refine e_cRS2 (z := 86) (pc' := 105) hK rfl rfl rfl (Nat.le_of_ble_eq_true rfl) (Nat.le_of_ble_eq_true rfl) (c_slotss hA0 4 (by omega)) (by decide) rfl ?_
                  try simp (disch := omega) only [t00, p0, p2, p3, p4, p5, p6, p7, p8, p9, a0, an, aT]
                  refine e_ret hK rfl rfl rfl ?_
                  have e9 : sp_about W x = (0, csls (wA W) 4, W) := by { unfold sp_about; (repeat (first | rw [if_pos (by omega)] | rw [if_neg (by omega)])) }
                  rw [e9]
                  refine ⟨rfl, rfl, rfl, ?_⟩
                  dsimp only
                  have := csls_b hB 4; omega
                · skip
                  rcases j with _ | j
                  · show mv_Ev _ _ 106 _ _ _ _ _
                    refine e_step (pc' := 107) hK rfl rfl rfl ?_
                    refine e_getR (ci := 0) (k := 4) (pc' := 110) hK rfl (by simp (disch := omega) only [t00, p0, p2, p3, p4, p5, p6, p7, p8, p9, a0, an, aT]) rfl rfl (by decide) (by decide) (by (try simp (disch := omega) only [t00, p0, p2, p3, p4, p5, p6, p7, p8, p9, a0, an, aT]); first | omega) rfl ?_
                    try simp (disch := omega) only [t00, p0, p2, p3, p4, p5, p6, p7, p8, p9, a0, an, aT]
                    refine e_cRS1 (z := 88) (pc' := 113) hK rfl rfl rfl (Nat.le_of_ble_eq_true rfl) (Nat.le_of_ble_eq_true rfl) (c_dw hA0) (by decide) rfl ?_
                    try simp (disch := omega) only [t00, p0, p2, p3, p4, p5, p6, p7, p8, p9, a0, an, aT]
                    refine e_ret hK rfl rfl rfl ?_
                    have e9 : sp_about W x = (0, cdw (wA W), W) := by { unfold sp_about; (repeat (first | rw [if_pos (by omega)] | rw [if_neg (by omega)])) }
                    rw [e9]
                    refine ⟨rfl, rfl, rfl, ?_⟩
                    dsimp only
                    have := cdw_b hB; omega
                  · skip
                    exact absurd hj (by show ¬ _ < 8; omega)
set_option maxRecDepth 10000 in
theorem f_line {m : Nat} {W : wt} (hL : LtA m h W) (i : Int) (hi : mv_i i) (x : Int) (hx : mv_i x) : mv_Cl sc q_LT_line [(2, 0), (0, i), (0, x)] c h (fun r c' h' => r = clr 2 0 (sp_line W i x).1 (sp_line W i x).2.1 ∧ c' = cck (sp_line W i x).1 c ∧ h' = h ∧ mv_i (sp_line W i x).2.1) := by
  have hL0 := hL
  obtain ⟨⟨⟨t00, p0, p2, p3, p4, p5, p6, p7, p8, p9, t14, l14, g14, t252, l252, g252a, g252b, t263, l263⟩, hTx, hA, hH, hS0, hS1, hSv, hm, hgR, hgRn, hgRs⟩, hsc⟩ := hL
  have hA0 := hA
  obtain ⟨⟨s1, s2, a0, -, -, -, -, -, -, -, -, -, -⟩, hB, an, aT, -⟩ := hA
  have bn := hB.1
  have bT := hB.2.1
  have ltg := (hA0.lr i).tag
  have lln := (hA0.lr i).len
  show mv_Ev sc 52 0 [(2, 0), (0, i), (0, x)] [] c h _
  have hK : (mv_m 52).1 = kc_LT_line := rfl
  refine e_step (pc' := 1) hK rfl rfl rfl ?_
  refine e_step (pc' := 2) hK rfl rfl rfl ?_
  refine e_callX (z := 53) (vs := [(2, 0), (0, i)]) (r := []) hK rfl rfl rfl rfl rfl (Nat.le_of_ble_eq_true rfl) (decide_eq_true (by first | (simp (disch := omega) only [t00, p0, p2, p3, p4, p5, p6, p7, p8, p9, a0, an, aT, ltg, lln]; rfl) | (show _ = 2; assumption) | (show _ = 1; assumption) | (show _ = 0; assumption))) (Nat.le_of_ble_eq_true rfl) (by decide) rfl rfl rfl (f_checkLine hL0 i hi) ?_
  rintro _ _ _ ⟨rfl, hq⟩
  rcases hq with ⟨hx2, rfl, rfl⟩ | ⟨hx2, rfl, rfl⟩
  rotate_left
  · refine Or.inr ⟨rfl, by decide, by decide, ?_⟩
    have e9 : sp_line W i x = (1, 0, W) := by { unfold sp_line; (repeat (first | rw [if_pos (by omega)] | rw [if_neg (by omega)])) }
    rw [e9]
    refine ⟨rfl, rfl, rfl, ?_⟩
    dsimp only
    omega
  refine Or.inl ⟨by decide, ?_⟩
  rw [if_pos rfl]
  show mv_Ev _ _ 5 _ _ _ _ _
  refine e_step (pc' := 6) hK rfl rfl rfl ?_
  refine e_tsw (td := 99) hK rfl (by first | omega) rfl (by decide) (by decide) (fun hb6 => ?_) (fun j hj hb6 => ?_)
  · skip
    refine e_thr (E := 0) hK rfl rfl rfl rfl ?_
    have e9 : sp_line W i x = (2, 0, W) := by { unfold sp_line; (repeat (first | rw [if_pos (by omega)] | rw [if_neg (by omega)])) }
    rw [e9]
    refine ⟨rfl, rfl, rfl, ?_⟩
    dsimp only
    omega
  · skip
    rcases j with _ | j
    · show mv_Ev _ _ 36 _ _ _ _ _
      refine e_step (pc' := 37) hK rfl rfl rfl ?_
      refine e_getR (ci := 0) (k := 4) (pc' := 40) hK rfl (by simp (disch := omega) only [t00, p0, p2, p3, p4, p5, p6, p7, p8, p9, a0, an, aT, ltg, lln]) rfl rfl (by decide) (by decide) (by (try simp (disch := omega) only [t00, p0, p2, p3, p4, p5, p6, p7, p8, p9, a0, an, aT, ltg, lln]); first | omega) rfl ?_
      try simp (disch := omega) only [t00, p0, p2, p3, p4, p5, p6, p7, p8, p9, a0, an, aT, ltg, lln]
      refine e_step (pc' := 41) hK rfl rfl rfl ?_
      refine e_cRV2 (z := 27) (pc' := 44) hK rfl rfl (by first | (simp (disch := omega) only [t00, p0, p2, p3, p4, p5, p6, p7, p8, p9, a0, an, aT, ltg, lln]; rfl) | (show _ = 2; assumption) | (show _ = 1; assumption) | (show _ = 0; assumption) | (show _ = 3; assumption) | (show _ = 4; assumption)) rfl (Nat.le_of_ble_eq_true rfl) (Nat.le_of_ble_eq_true rfl) (c_templateAt hA0 i hi) (by decide) rfl ?_
      try simp (disch := omega) only [t00, p0, p2, p3, p4, p5, p6, p7, p8, p9, a0, an, aT, ltg, lln]
      refine e_ret hK rfl rfl rfl ?_
      have e9 : sp_line W i x = (0, gt (wA W) i, W) := by { unfold sp_line; (repeat (first | rw [if_pos (by omega)] | rw [if_neg (by omega)])) }
      rw [e9]
      refine ⟨rfl, rfl, rfl, ?_⟩
      dsimp only
      have := gt_b hB i; omega
    · skip
      rcases j with _ | j
      · show mv_Ev _ _ 45 _ _ _ _ _
        refine e_step (pc' := 46) hK rfl rfl rfl ?_
        refine e_getR (ci := 0) (k := 4) (pc' := 49) hK rfl (by simp (disch := omega) only [t00, p0, p2, p3, p4, p5, p6, p7, p8, p9, a0, an, aT, ltg, lln]) rfl rfl (by decide) (by decide) (by (try simp (disch := omega) only [t00, p0, p2, p3, p4, p5, p6, p7, p8, p9, a0, an, aT, ltg, lln]); first | omega) rfl ?_
        try simp (disch := omega) only [t00, p0, p2, p3, p4, p5, p6, p7, p8, p9, a0, an, aT, ltg, lln]
        refine e_step (pc' := 50) hK rfl rfl rfl ?_
        refine e_cRV2 (z := 26) (pc' := 53) hK rfl rfl (by first | (simp (disch := omega) only [t00, p0, p2, p3, p4, p5, p6, p7, p8, p9, a0, an, aT, ltg, lln]; rfl) | (show _ = 2; assumption) | (show _ = 1; assumption) | (show _ = 0; assumption) | (show _ = 3; assumption) | (show _ = 4; assumption)) rfl (Nat.le_of_ble_eq_true rfl) (Nat.le_of_ble_eq_true rfl) (c_lineAt hA0 i hi) (by decide) rfl ?_
        try simp (disch := omega) only [t00, p0, p2, p3, p4, p5, p6, p7, p8, p9, a0, an, aT, ltg, lln]
        refine e_getI (ci := 1) (k := 5) (pc' := 56) hK rfl (by simp (disch := omega) only [t00, p0, p2, p3, p4, p5, p6, p7, p8, p9, a0, an, aT, ltg, lln]) rfl rfl (by decide) (by decide) rfl ?_
        try simp (disch := omega) only [t00, p0, p2, p3, p4, p5, p6, p7, p8, p9, a0, an, aT, ltg, lln]
        refine e_ret hK rfl rfl rfl ?_
        have e9 : sp_line W i x = (0, (((gl (wA W) i).1 : Nat) : Int), W) := by { unfold sp_line; (repeat (first | rw [if_pos (by omega)] | rw [if_neg (by omega)])) }
        rw [e9]
        refine ⟨rfl, rfl, rfl, ?_⟩
        dsimp only
        have := xn_b (gl_ok hB i); omega
      · skip
        rcases j with _ | j
        · show mv_Ev _ _ 57 _ _ _ _ _
          refine e_step (pc' := 58) hK rfl rfl rfl ?_
          refine e_getR (ci := 0) (k := 4) (pc' := 61) hK rfl (by simp (disch := omega) only [t00, p0, p2, p3, p4, p5, p6, p7, p8, p9, a0, an, aT, ltg, lln]) rfl rfl (by decide) (by decide) (by (try simp (disch := omega) only [t00, p0, p2, p3, p4, p5, p6, p7, p8, p9, a0, an, aT, ltg, lln]); first | omega) rfl ?_
          try simp (disch := omega) only [t00, p0, p2, p3, p4, p5, p6, p7, p8, p9, a0, an, aT, ltg, lln]
          refine e_step (pc' := 62) hK rfl rfl rfl ?_
          refine e_getR (ci := 0) (k := 4) (pc' := 65) hK rfl (by simp (disch := omega) only [t00, p0, p2, p3, p4, p5, p6, p7, p8, p9, a0, an, aT, ltg, lln]) rfl rfl (by decide) (by decide) (by (try simp (disch := omega) only [t00, p0, p2, p3, p4, p5, p6, p7, p8, p9, a0, an, aT, ltg, lln]); first | omega) rfl ?_
          try simp (disch := omega) only [t00, p0, p2, p3, p4, p5, p6, p7, p8, p9, a0, an, aT, ltg, lln]
          refine e_step (pc' := 66) hK rfl rfl rfl ?_
          refine e_cRV2 (z := 26) (pc' := 69) hK rfl rfl (by first | (simp (disch := omega) only [t00, p0, p2, p3, p4, p5, p6, p7, p8, p9, a0, an, aT, ltg, lln]; rfl) | (show _ = 2; assumption) | (show _ = 1; assumption) | (show _ = 0; assumption) | (show _ = 3; assumption) | (show _ = 4; assumption)) rfl (Nat.le_of_ble_eq_true rfl) (Nat.le_of_ble_eq_true rfl) (c_lineAt hA0 i hi) (by decide) rfl ?_
          try simp (disch := omega) only [t00, p0, p2, p3, p4, p5, p6, p7, p8, p9, a0, an, aT, ltg, lln]
          refine e_step (pc' := 70) hK rfl rfl rfl ?_
          refine e_getR (ci := 0) (k := 4) (pc' := 73) hK rfl (by simp (disch := omega) only [t00, p0, p2, p3, p4, p5, p6, p7, p8, p9, a0, an, aT, ltg, lln]) rfl rfl (by decide) (by decide) (by (try simp (disch := omega) only [t00, p0, p2, p3, p4, p5, p6, p7, p8, p9, a0, an, aT, ltg, lln]); first | omega) rfl ?_
          try simp (disch := omega) only [t00, p0, p2, p3, p4, p5, p6, p7, p8, p9, a0, an, aT, ltg, lln]
          refine e_step (pc' := 74) hK rfl rfl rfl ?_
          refine e_cRV2 (z := 27) (pc' := 77) hK rfl rfl (by first | (simp (disch := omega) only [t00, p0, p2, p3, p4, p5, p6, p7, p8, p9, a0, an, aT, ltg, lln]; rfl) | (show _ = 2; assumption) | (show _ = 1; assumption) | (show _ = 0; assumption) | (show _ = 3; assumption) | (show _ = 4; assumption)) rfl (Nat.le_of_ble_eq_true rfl) (Nat.le_of_ble_eq_true rfl) (c_templateAt hA0 i hi) (by decide) rfl ?_
          try simp (disch := omega) only [t00, p0, p2, p3, p4, p5, p6, p7, p8, p9, a0, an, aT, ltg, lln]
          refine e_step (pc' := 78) hK rfl rfl rfl ?_
          refine e_cRS4 (z := 78) (pc' := 81) hK rfl rfl rfl (Nat.le_of_ble_eq_true rfl) (Nat.le_of_ble_eq_true rfl) (c_ofLine hA0 (hA0.lr i) (gt (wA W) i) i (by have := gt_b hB i; omega) hi) (by decide) rfl ?_
          try simp (disch := omega) only [t00, p0, p2, p3, p4, p5, p6, p7, p8, p9, a0, an, aT, ltg, lln]
          refine e_ret hK rfl rfl rfl ?_
          have e9 : sp_line W i x = (0, col (wA W) (gl (wA W) i) (gt (wA W) i) i, W) := by { unfold sp_line; (repeat (first | rw [if_pos (by omega)] | rw [if_neg (by omega)])) }
          rw [e9]
          refine ⟨rfl, rfl, rfl, ?_⟩
          dsimp only
          have := col_b hB (gl_ok hB i) (gt (wA W) i) i; omega
        · skip
          rcases j with _ | j
          · show mv_Ev _ _ 82 _ _ _ _ _
            refine e_step (pc' := 83) hK rfl rfl rfl ?_
            refine e_getR (ci := 0) (k := 4) (pc' := 86) hK rfl (by simp (disch := omega) only [t00, p0, p2, p3, p4, p5, p6, p7, p8, p9, a0, an, aT, ltg, lln]) rfl rfl (by decide) (by decide) (by (try simp (disch := omega) only [t00, p0, p2, p3, p4, p5, p6, p7, p8, p9, a0, an, aT, ltg, lln]); first | omega) rfl ?_
            try simp (disch := omega) only [t00, p0, p2, p3, p4, p5, p6, p7, p8, p9, a0, an, aT, ltg, lln]
            refine e_step (pc' := 87) hK rfl rfl rfl ?_
            refine e_getR (ci := 0) (k := 4) (pc' := 90) hK rfl (by simp (disch := omega) only [t00, p0, p2, p3, p4, p5, p6, p7, p8, p9, a0, an, aT, ltg, lln]) rfl rfl (by decide) (by decide) (by (try simp (disch := omega) only [t00, p0, p2, p3, p4, p5, p6, p7, p8, p9, a0, an, aT, ltg, lln]); first | omega) rfl ?_
            try simp (disch := omega) only [t00, p0, p2, p3, p4, p5, p6, p7, p8, p9, a0, an, aT, ltg, lln]
            refine e_step (pc' := 91) hK rfl rfl rfl ?_
            refine e_cRV2 (z := 27) (pc' := 94) hK rfl rfl (by first | (simp (disch := omega) only [t00, p0, p2, p3, p4, p5, p6, p7, p8, p9, a0, an, aT, ltg, lln]; rfl) | (show _ = 2; assumption) | (show _ = 1; assumption) | (show _ = 0; assumption) | (show _ = 3; assumption) | (show _ = 4; assumption)) rfl (Nat.le_of_ble_eq_true rfl) (Nat.le_of_ble_eq_true rfl) (c_templateAt hA0 i hi) (by decide) rfl ?_
            try simp (disch := omega) only [t00, p0, p2, p3, p4, p5, p6, p7, p8, p9, a0, an, aT, ltg, lln]
            refine e_step (pc' := 95) hK rfl rfl rfl ?_
            refine e_cRS3 (z := 90) (pc' := 98) hK rfl rfl rfl (Nat.le_of_ble_eq_true rfl) (Nat.le_of_ble_eq_true rfl) (c_before hA0 (gt (wA W) i) i (by have := gt_b hB i; omega) hi) (by decide) rfl ?_
            try simp (disch := omega) only [t00, p0, p2, p3, p4, p5, p6, p7, p8, p9, a0, an, aT, ltg, lln]
            refine e_ret hK rfl rfl rfl ?_
            have e9 : sp_line W i x = (0, clb (wA W) (gt (wA W) i) i, W) := by { unfold sp_line; (repeat (first | rw [if_pos (by omega)] | rw [if_neg (by omega)])) }
            rw [e9]
            refine ⟨rfl, rfl, rfl, ?_⟩
            dsimp only
            have := clb_b hB (gt (wA W) i) i; omega
          · skip
            exact absurd hj (by show ¬ _ < 4; omega)
set_option maxRecDepth 10000 in
theorem f_charAt {m : Nat} {W : wt} (hL : LtA m h W) (i : Int) (hi : mv_i i) (x : Int) (hx : mv_i x) : mv_Cl sc q_LT_charAt [(2, 0), (0, i), (0, x)] c h (fun r c' h' => r = clr 2 0 (sp_charAt W i x).1 (sp_charAt W i x).2.1 ∧ c' = cck (sp_charAt W i x).1 c ∧ h' = h ∧ mv_i (sp_charAt W i x).2.1) := by
  have hL0 := hL
  obtain ⟨⟨⟨t00, p0, p2, p3, p4, p5, p6, p7, p8, p9, t14, l14, g14, t252, l252, g252a, g252b, t263, l263⟩, hTx, hA, hH, hS0, hS1, hSv, hm, hgR, hgRn, hgRs⟩, hsc⟩ := hL
  have hA0 := hA
  obtain ⟨⟨s1, s2, a0, -, -, -, -, -, -, -, -, -, -⟩, hB, an, aT, -⟩ := hA
  have bn := hB.1
  have bT := hB.2.1
  have ltg := (hA0.lr i).tag
  show mv_Ev sc 54 0 [(2, 0), (0, i), (0, x)] [] c h _
  have hK : (mv_m 54).1 = kc_LT_charAt := rfl
  refine e_step (pc' := 1) hK rfl rfl rfl ?_
  refine e_step (pc' := 2) hK rfl rfl rfl ?_
  refine e_callX (z := 53) (vs := [(2, 0), (0, i)]) (r := []) hK rfl rfl rfl rfl rfl (Nat.le_of_ble_eq_true rfl) (decide_eq_true (by first | (simp (disch := omega) only [t00, p0, p2, p3, p4, p5, p6, p7, p8, p9, a0, an, aT, ltg]; rfl) | (show _ = 2; assumption) | (show _ = 1; assumption) | (show _ = 0; assumption))) (Nat.le_of_ble_eq_true rfl) (by decide) rfl rfl rfl (f_checkLine hL0 i hi) ?_
  rintro _ _ _ ⟨rfl, hq⟩
  rcases hq with ⟨hx2, rfl, rfl⟩ | ⟨hx2, rfl, rfl⟩
  rotate_left
  · refine Or.inr ⟨rfl, by decide, by decide, ?_⟩
    have e9 : sp_charAt W i x = (1, 0, W) := by { unfold sp_charAt; (repeat (first | rw [if_pos (by omega)] | rw [if_neg (by omega)])) }
    rw [e9]
    refine ⟨rfl, rfl, rfl, ?_⟩
    dsimp only
    omega
  refine Or.inl ⟨by decide, ?_⟩
  rw [if_pos rfl]
  show mv_Ev _ _ 5 _ _ _ _ _
  refine e_step (pc' := 6) hK rfl rfl rfl ?_
  refine e_if (t := 19) (pc' := 9) hK rfl (by first | omega) (by decide) rfl (fun hb6 => ?_) (fun hb6 => ?_)
  · replace hb6 := cq_ge.1.mp hb6
    refine e_step (pc' := 20) hK rfl rfl rfl ?_
    refine e_getR (ci := 0) (k := 4) (pc' := 23) hK rfl (by simp (disch := omega) only [t00, p0, p2, p3, p4, p5, p6, p7, p8, p9, a0, an, aT, ltg]) rfl rfl (by decide) (by decide) (by (try simp (disch := omega) only [t00, p0, p2, p3, p4, p5, p6, p7, p8, p9, a0, an, aT, ltg]); first | omega) rfl ?_
    try simp (disch := omega) only [t00, p0, p2, p3, p4, p5, p6, p7, p8, p9, a0, an, aT, ltg]
    refine e_step (pc' := 24) hK rfl rfl rfl ?_
    refine e_cRV2 (z := 26) (pc' := 27) hK rfl rfl (by first | (simp (disch := omega) only [t00, p0, p2, p3, p4, p5, p6, p7, p8, p9, a0, an, aT, ltg]; rfl) | (show _ = 2; assumption) | (show _ = 1; assumption) | (show _ = 0; assumption) | (show _ = 3; assumption) | (show _ = 4; assumption)) rfl (Nat.le_of_ble_eq_true rfl) (Nat.le_of_ble_eq_true rfl) (c_lineAt hA0 i hi) (by decide) rfl ?_
    try simp (disch := omega) only [t00, p0, p2, p3, p4, p5, p6, p7, p8, p9, a0, an, aT, ltg]
    refine e_step (pc' := 28) hK rfl rfl rfl ?_
    refine e_cRV2 (z := 12) (pc' := 31) hK rfl rfl (by first | (simp (disch := omega) only [t00, p0, p2, p3, p4, p5, p6, p7, p8, p9, a0, an, aT, ltg]; rfl) | (show _ = 2; assumption) | (show _ = 1; assumption) | (show _ = 0; assumption) | (show _ = 3; assumption) | (show _ = 4; assumption)) rfl (Nat.le_of_ble_eq_true rfl) (Nat.le_of_ble_eq_true rfl) (x_characterAt (hA0.lr i) x hx) (by decide) rfl ?_
    try simp (disch := omega) only [t00, p0, p2, p3, p4, p5, p6, p7, p8, p9, a0, an, aT, ltg]
    refine e_ret hK rfl rfl rfl ?_
    have e9 : sp_charAt W i x = (0, xc (gl (wA W) i) x, W) := by { unfold sp_charAt; (repeat (first | rw [if_pos (by omega)] | rw [if_neg (by omega)])) }
    rw [e9]
    refine ⟨rfl, rfl, rfl, ?_⟩
    dsimp only
    have := xc_b (gl_ok hB i) x; omega
  · replace hb6 := cq_ge.2.mp hb6
    refine e_thr (E := 0) hK rfl rfl rfl rfl ?_
    have e9 : sp_charAt W i x = (2, 0, W) := by { unfold sp_charAt; (repeat (first | rw [if_pos (by omega)] | rw [if_neg (by omega)])) }
    rw [e9]
    refine ⟨rfl, rfl, rfl, ?_⟩
    dsimp only
    omega
set_option maxRecDepth 10000 in
theorem f_value {m : Nat} {W : wt} (hL : LtA m h W) (i : Int) (hi : mv_i i) (x : Int) (hx : mv_i x) : mv_Cl sc q_LT_value [(2, 0), (0, i), (0, x)] c h (fun r c' h' => r = clr 2 9 (sp_value W i x).1 (sp_value W i x).2.1 ∧ c' = cck (sp_value W i x).1 c ∧ h' = h ∧ mv_i (sp_value W i x).2.1) := by
  have hL0 := hL
  obtain ⟨⟨⟨t00, p0, p2, p3, p4, p5, p6, p7, p8, p9, t14, l14, g14, t252, l252, g252a, g252b, t263, l263⟩, hTx, hA, hH, hS0, hS1, hSv, hm, hgR, hgRn, hgRs⟩, hsc⟩ := hL
  have hA0 := hA
  obtain ⟨⟨s1, s2, a0, -, -, -, -, -, -, -, -, -, -⟩, hB, an, aT, -⟩ := hA
  have bn := hB.1
  have bT := hB.2.1
  have ltg := (hA0.lr i).tag
  show mv_Ev sc 55 0 [(2, 0), (0, i), (0, x)] [] c h _
  have hK : (mv_m 55).1 = kc_LT_value := rfl
  refine e_step (pc' := 1) hK rfl rfl rfl ?_
  refine e_step (pc' := 2) hK rfl rfl rfl ?_
  refine e_callX (z := 53) (vs := [(2, 0), (0, i)]) (r := []) hK rfl rfl rfl rfl rfl (Nat.le_of_ble_eq_true rfl) (decide_eq_true (by first | (simp (disch := omega) only [t00, p0, p2, p3, p4, p5, p6, p7, p8, p9, a0, an, aT, ltg]; rfl) | (show _ = 2; assumption) | (show _ = 1; assumption) | (show _ = 0; assumption))) (Nat.le_of_ble_eq_true rfl) (by decide) rfl rfl rfl (f_checkLine hL0 i hi) ?_
  rintro _ _ _ ⟨rfl, hq⟩
  rcases hq with ⟨hx2, rfl, rfl⟩ | ⟨hx2, rfl, rfl⟩
  rotate_left
  · refine Or.inr ⟨rfl, by decide, by decide, ?_⟩
    have e9 : sp_value W i x = (1, 0, W) := by { unfold sp_value; (repeat (first | rw [if_pos (by omega)] | rw [if_neg (by omega)])) }
    rw [e9]
    refine ⟨rfl, rfl, rfl, ?_⟩
    dsimp only
    omega
  refine Or.inl ⟨by decide, ?_⟩
  rw [if_pos rfl]
  show mv_Ev _ _ 5 _ _ _ _ _
  refine e_step (pc' := 6) hK rfl rfl rfl ?_
  refine e_getR (ci := 0) (k := 4) (pc' := 9) hK rfl (by simp (disch := omega) only [t00, p0, p2, p3, p4, p5, p6, p7, p8, p9, a0, an, aT, ltg]) rfl rfl (by decide) (by decide) (by (try simp (disch := omega) only [t00, p0, p2, p3, p4, p5, p6, p7, p8, p9, a0, an, aT, ltg]); first | omega) rfl ?_
  try simp (disch := omega) only [t00, p0, p2, p3, p4, p5, p6, p7, p8, p9, a0, an, aT, ltg]
  refine e_step (pc' := 10) hK rfl rfl rfl ?_
  refine e_cRV2 (z := 26) (pc' := 13) hK rfl rfl (by first | (simp (disch := omega) only [t00, p0, p2, p3, p4, p5, p6, p7, p8, p9, a0, an, aT, ltg]; rfl) | (show _ = 2; assumption) | (show _ = 1; assumption) | (show _ = 0; assumption) | (show _ = 3; assumption) | (show _ = 4; assumption)) rfl (Nat.le_of_ble_eq_true rfl) (Nat.le_of_ble_eq_true rfl) (c_lineAt hA0 i hi) (by decide) rfl ?_
  try simp (disch := omega) only [t00, p0, p2, p3, p4, p5, p6, p7, p8, p9, a0, an, aT, ltg]
  refine e_step (pc' := 14) hK rfl rfl rfl ?_
  refine e_callX (z := 56) (vs := [(2, lrf _ 165 (wA W) i), (0, x)]) (r := []) hK rfl rfl rfl rfl rfl (Nat.le_of_ble_eq_true rfl) rfl (Nat.le_of_ble_eq_true rfl) (by decide) rfl rfl rfl (f_checkPiece (hA0.lr i) x hx) ?_
  rintro _ _ _ ⟨rfl, hq⟩
  rcases hq with ⟨hx14, rfl, rfl⟩ | ⟨hx14, rfl, rfl⟩
  rotate_left
  · refine Or.inr ⟨rfl, by decide, by decide, ?_⟩
    have e9 : sp_value W i x = (1, 0, W) := by { unfold sp_value; (repeat (first | rw [if_pos (by omega)] | rw [if_neg (by omega)])) }
    rw [e9]
    refine ⟨rfl, rfl, rfl, ?_⟩
    dsimp only
    omega
  refine Or.inl ⟨by decide, ?_⟩
  rw [if_pos rfl]
  show mv_Ev _ _ 17 _ _ _ _ _
  refine e_step (pc' := 18) hK rfl rfl rfl ?_
  refine e_getR (ci := 0) (k := 4) (pc' := 21) hK rfl (by simp (disch := omega) only [t00, p0, p2, p3, p4, p5, p6, p7, p8, p9, a0, an, aT, ltg]) rfl rfl (by decide) (by decide) (by (try simp (disch := omega) only [t00, p0, p2, p3, p4, p5, p6, p7, p8, p9, a0, an, aT, ltg]); first | omega) rfl ?_
  try simp (disch := omega) only [t00, p0, p2, p3, p4, p5, p6, p7, p8, p9, a0, an, aT, ltg]
  refine e_step (pc' := 22) hK rfl rfl rfl ?_
  refine e_cRV2 (z := 26) (pc' := 25) hK rfl rfl (by first | (simp (disch := omega) only [t00, p0, p2, p3, p4, p5, p6, p7, p8, p9, a0, an, aT, ltg]; rfl) | (show _ = 2; assumption) | (show _ = 1; assumption) | (show _ = 0; assumption) | (show _ = 3; assumption) | (show _ = 4; assumption)) rfl (Nat.le_of_ble_eq_true rfl) (Nat.le_of_ble_eq_true rfl) (c_lineAt hA0 i hi) (by decide) rfl ?_
  try simp (disch := omega) only [t00, p0, p2, p3, p4, p5, p6, p7, p8, p9, a0, an, aT, ltg]
  refine e_step (pc' := 26) hK rfl rfl rfl ?_
  refine e_cRV2 (z := 11) (pc' := 29) hK rfl rfl (by first | (simp (disch := omega) only [t00, p0, p2, p3, p4, p5, p6, p7, p8, p9, a0, an, aT, ltg]; rfl) | (show _ = 2; assumption) | (show _ = 1; assumption) | (show _ = 0; assumption) | (show _ = 3; assumption) | (show _ = 4; assumption)) rfl (Nat.le_of_ble_eq_true rfl) (Nat.le_of_ble_eq_true rfl) (x_valueAt (hA0.lr i) x hx) (by decide) rfl ?_
  try simp (disch := omega) only [t00, p0, p2, p3, p4, p5, p6, p7, p8, p9, a0, an, aT, ltg]
  refine e_ret hK rfl rfl rfl ?_
  have e9 : sp_value W i x = (0, xv (gl (wA W) i) x, W) := by { unfold sp_value; (repeat (first | rw [if_pos (by omega)] | rw [if_neg (by omega)])) }
  rw [e9]
  refine ⟨rfl, rfl, rfl, ?_⟩
  dsimp only
  have := xv_b (gl_ok hB i) x; omega
set_option maxRecDepth 10000 in
theorem f_template {m : Nat} {W : wt} (hL : LtA m h W) (i : Int) (hi : mv_i i) (x : Int) (hx : mv_i x) : mv_Cl sc q_LT_template [(2, 0), (0, i), (0, x)] c h (fun r c' h' => r = clr 2 0 (sp_template W i x).1 (sp_template W i x).2.1 ∧ c' = cck (sp_template W i x).1 c ∧ h' = h ∧ mv_i (sp_template W i x).2.1) := by
  have hL0 := hL
  obtain ⟨⟨⟨t00, p0, p2, p3, p4, p5, p6, p7, p8, p9, t14, l14, g14, t252, l252, g252a, g252b, t263, l263⟩, hTx, hA, hH, hS0, hS1, hSv, hm, hgR, hgRn, hgRs⟩, hsc⟩ := hL
  have hA0 := hA
  obtain ⟨⟨s1, s2, a0, -, -, -, -, -, -, -, -, -, -⟩, hB, an, aT, -⟩ := hA
  have bn := hB.1
  have bT := hB.2.1
  have stg := (hA0.sr i).tag
  have sln := (hA0.sr i).n
  show mv_Ev sc 57 0 [(2, 0), (0, i), (0, x)] [] c h _
  have hK : (mv_m 57).1 = kc_LT_template := rfl
  refine e_step (pc' := 1) hK rfl rfl rfl ?_
  refine e_step (pc' := 2) hK rfl rfl rfl ?_
  refine e_callX (z := 58) (vs := [(2, 0), (0, i)]) (r := []) hK rfl rfl rfl rfl rfl (Nat.le_of_ble_eq_true rfl) (decide_eq_true (by first | (simp (disch := omega) only [t00, p0, p2, p3, p4, p5, p6, p7, p8, p9, a0, an, aT, stg, sln]; rfl) | (show _ = 2; assumption) | (show _ = 1; assumption) | (show _ = 0; assumption))) (Nat.le_of_ble_eq_true rfl) (by decide) rfl rfl rfl (f_checkTemp hL0 i hi) ?_
  rintro _ _ _ ⟨rfl, hq⟩
  rcases hq with ⟨hx2, rfl, rfl⟩ | ⟨hx2, rfl, rfl⟩
  rotate_left
  · refine Or.inr ⟨rfl, by decide, by decide, ?_⟩
    have e9 : sp_template W i x = (1, 0, W) := by { unfold sp_template; (repeat (first | rw [if_pos (by omega)] | rw [if_neg (by omega)])) }
    rw [e9]
    refine ⟨rfl, rfl, rfl, ?_⟩
    dsimp only
    omega
  refine Or.inl ⟨by decide, ?_⟩
  rw [if_pos rfl]
  show mv_Ev _ _ 5 _ _ _ _ _
  refine e_step (pc' := 6) hK rfl rfl rfl ?_
  refine e_tsw (td := 110) hK rfl (by first | omega) rfl (by decide) (by decide) (fun hb6 => ?_) (fun j hj hb6 => ?_)
  · skip
    refine e_thr (E := 0) hK rfl rfl rfl rfl ?_
    have e9 : sp_template W i x = (2, 0, W) := by { unfold sp_template; (repeat (first | rw [if_pos (by omega)] | rw [if_neg (by omega)])) }
    rw [e9]
    refine ⟨rfl, rfl, rfl, ?_⟩
    dsimp only
    omega
  · skip
    rcases j with _ | j
    · show mv_Ev _ _ 44 _ _ _ _ _
      refine e_step (pc' := 45) hK rfl rfl rfl ?_
      refine e_getR (ci := 0) (k := 4) (pc' := 48) hK rfl (by simp (disch := omega) only [t00, p0, p2, p3, p4, p5, p6, p7, p8, p9, a0, an, aT, stg, sln]) rfl rfl (by decide) (by decide) (by (try simp (disch := omega) only [t00, p0, p2, p3, p4, p5, p6, p7, p8, p9, a0, an, aT, stg, sln]); first | omega) rfl ?_
      try simp (disch := omega) only [t00, p0, p2, p3, p4, p5, p6, p7, p8, p9, a0, an, aT, stg, sln]
      refine e_step (pc' := 49) hK rfl rfl rfl ?_
      refine e_cRV2 (z := 17) (pc' := 52) hK rfl rfl (by first | (simp (disch := omega) only [t00, p0, p2, p3, p4, p5, p6, p7, p8, p9, a0, an, aT, stg, sln]; rfl) | (show _ = 2; assumption) | (show _ = 1; assumption) | (show _ = 0; assumption) | (show _ = 3; assumption) | (show _ = 4; assumption)) rfl (Nat.le_of_ble_eq_true rfl) (Nat.le_of_ble_eq_true rfl) (c_sampleAt hA0 i hi) (by decide) rfl ?_
      try simp (disch := omega) only [t00, p0, p2, p3, p4, p5, p6, p7, p8, p9, a0, an, aT, stg, sln]
      refine e_getI (ci := 1) (k := 6) (pc' := 55) hK rfl (by simp (disch := omega) only [t00, p0, p2, p3, p4, p5, p6, p7, p8, p9, a0, an, aT, stg, sln]) rfl rfl (by decide) (by decide) rfl ?_
      try simp (disch := omega) only [t00, p0, p2, p3, p4, p5, p6, p7, p8, p9, a0, an, aT, stg, sln]
      refine e_ret hK rfl rfl rfl ?_
      have e9 : sp_template W i x = (0, xn (gs (wA W) i), W) := by { unfold sp_template; (repeat (first | rw [if_pos (by omega)] | rw [if_neg (by omega)])) }
      rw [e9]
      refine ⟨rfl, rfl, rfl, ?_⟩
      dsimp only
      have := xn_b (gs_ok hB i); omega
    · skip
      rcases j with _ | j
      · show mv_Ev _ _ 56 _ _ _ _ _
        refine e_step (pc' := 57) hK rfl rfl rfl ?_
        refine e_getR (ci := 0) (k := 4) (pc' := 60) hK rfl (by simp (disch := omega) only [t00, p0, p2, p3, p4, p5, p6, p7, p8, p9, a0, an, aT, stg, sln]) rfl rfl (by decide) (by decide) (by (try simp (disch := omega) only [t00, p0, p2, p3, p4, p5, p6, p7, p8, p9, a0, an, aT, stg, sln]); first | omega) rfl ?_
        try simp (disch := omega) only [t00, p0, p2, p3, p4, p5, p6, p7, p8, p9, a0, an, aT, stg, sln]
        refine e_step (pc' := 61) hK rfl rfl rfl ?_
        refine e_step (pc' := 62) hK rfl rfl rfl ?_
        refine e_getR (ci := 0) (k := 4) (pc' := 65) hK rfl (by simp (disch := omega) only [t00, p0, p2, p3, p4, p5, p6, p7, p8, p9, a0, an, aT, stg, sln]) rfl rfl (by decide) (by decide) (by (try simp (disch := omega) only [t00, p0, p2, p3, p4, p5, p6, p7, p8, p9, a0, an, aT, stg, sln]); first | omega) rfl ?_
        try simp (disch := omega) only [t00, p0, p2, p3, p4, p5, p6, p7, p8, p9, a0, an, aT, stg, sln]
        refine e_getI (ci := 2) (k := 5) (pc' := 68) hK rfl (by simp (disch := omega) only [t00, p0, p2, p3, p4, p5, p6, p7, p8, p9, a0, an, aT, stg, sln]) rfl rfl (by decide) (by decide) rfl ?_
        try simp (disch := omega) only [t00, p0, p2, p3, p4, p5, p6, p7, p8, p9, a0, an, aT, stg, sln]
        refine e_cRS3 (z := 90) (pc' := 71) hK rfl rfl rfl (Nat.le_of_ble_eq_true rfl) (Nat.le_of_ble_eq_true rfl) (c_before hA0 i (gn (wA W)) hi (by omega)) (by decide) rfl ?_
        try simp (disch := omega) only [t00, p0, p2, p3, p4, p5, p6, p7, p8, p9, a0, an, aT, stg, sln]
        refine e_ret hK rfl rfl rfl ?_
        have e9 : sp_template W i x = (0, clb (wA W) i (gn (wA W)), W) := by { unfold sp_template; (repeat (first | rw [if_pos (by omega)] | rw [if_neg (by omega)])) }
        rw [e9]
        refine ⟨rfl, rfl, rfl, ?_⟩
        dsimp only
        have := clb_b hB i (gn (wA W)); omega
      · skip
        rcases j with _ | j
        · show mv_Ev _ _ 72 _ _ _ _ _
          refine e_step (pc' := 73) hK rfl rfl rfl ?_
          refine e_getR (ci := 0) (k := 4) (pc' := 76) hK rfl (by simp (disch := omega) only [t00, p0, p2, p3, p4, p5, p6, p7, p8, p9, a0, an, aT, stg, sln]) rfl rfl (by decide) (by decide) (by (try simp (disch := omega) only [t00, p0, p2, p3, p4, p5, p6, p7, p8, p9, a0, an, aT, stg, sln]); first | omega) rfl ?_
          try simp (disch := omega) only [t00, p0, p2, p3, p4, p5, p6, p7, p8, p9, a0, an, aT, stg, sln]
          refine e_step (pc' := 77) hK rfl rfl rfl ?_
          refine e_step (pc' := 78) hK rfl rfl rfl ?_
          refine e_cRS3 (z := 87) (pc' := 81) hK rfl rfl rfl (Nat.le_of_ble_eq_true rfl) (Nat.le_of_ble_eq_true rfl) (c_slots hA0 i 3 hi (by omega)) (by decide) rfl ?_
          try simp (disch := omega) only [t00, p0, p2, p3, p4, p5, p6, p7, p8, p9, a0, an, aT, stg, sln]
          refine e_ret hK rfl rfl rfl ?_
          have e9 : sp_template W i x = (0, csl (wA W) i 3, W) := by { unfold sp_template; (repeat (first | rw [if_pos (by omega)] | rw [if_neg (by omega)])) }
          rw [e9]
          refine ⟨rfl, rfl, rfl, ?_⟩
          dsimp only
          have := csl_b hB i 3; omega
        · skip
          rcases j with _ | j
          · show mv_Ev _ _ 82 _ _ _ _ _
            refine e_step (pc' := 83) hK rfl rfl rfl ?_
            refine e_getR (ci := 0) (k := 4) (pc' := 86) hK rfl (by simp (disch := omega) only [t00, p0, p2, p3, p4, p5, p6, p7, p8, p9, a0, an, aT, stg, sln]) rfl rfl (by decide) (by decide) (by (try simp (disch := omega) only [t00, p0, p2, p3, p4, p5, p6, p7, p8, p9, a0, an, aT, stg, sln]); first | omega) rfl ?_
            try simp (disch := omega) only [t00, p0, p2, p3, p4, p5, p6, p7, p8, p9, a0, an, aT, stg, sln]
            refine e_step (pc' := 87) hK rfl rfl rfl ?_
            refine e_step (pc' := 88) hK rfl rfl rfl ?_
            refine e_cRS3 (z := 87) (pc' := 91) hK rfl rfl rfl (Nat.le_of_ble_eq_true rfl) (Nat.le_of_ble_eq_true rfl) (c_slots hA0 i 4 hi (by omega)) (by decide) rfl ?_
            try simp (disch := omega) only [t00, p0, p2, p3, p4, p5, p6, p7, p8, p9, a0, an, aT, stg, sln]
            refine e_ret hK rfl rfl rfl ?_
            have e9 : sp_template W i x = (0, csl (wA W) i 4, W) := by { unfold sp_template; (repeat (first | rw [if_pos (by omega)] | rw [if_neg (by omega)])) }
            rw [e9]
            refine ⟨rfl, rfl, rfl, ?_⟩
            dsimp only
            have := csl_b hB i 4; omega
          · skip
            rcases j with _ | j
            · show mv_Ev _ _ 92 _ _ _ _ _
              refine e_step (pc' := 93) hK rfl rfl rfl ?_
              refine e_getR (ci := 0) (k := 4) (pc' := 96) hK rfl (by simp (disch := omega) only [t00, p0, p2, p3, p4, p5, p6, p7, p8, p9, a0, an, aT, stg, sln]) rfl rfl (by decide) (by decide) (by (try simp (disch := omega) only [t00, p0, p2, p3, p4, p5, p6, p7, p8, p9, a0, an, aT, stg, sln]); first | omega) rfl ?_
              try simp (disch := omega) only [t00, p0, p2, p3, p4, p5, p6, p7, p8, p9, a0, an, aT, stg, sln]
              refine e_step (pc' := 97) hK rfl rfl rfl ?_
              refine e_cRS2 (z := 83) (pc' := 100) hK rfl rfl rfl (Nat.le_of_ble_eq_true rfl) (Nat.le_of_ble_eq_true rfl) (c_ofTemp hA0 i hi) (by decide) rfl ?_
              try simp (disch := omega) only [t00, p0, p2, p3, p4, p5, p6, p7, p8, p9, a0, an, aT, stg, sln]
              refine e_ret hK rfl rfl rfl ?_
              have e9 : sp_template W i x = (0, cot (wA W) i, W) := by { unfold sp_template; (repeat (first | rw [if_pos (by omega)] | rw [if_neg (by omega)])) }
              rw [e9]
              refine ⟨rfl, rfl, rfl, ?_⟩
              dsimp only
              have := cot_b hB i; omega
            · skip
              rcases j with _ | j
              · show mv_Ev _ _ 101 _ _ _ _ _
                refine e_step (pc' := 102) hK rfl rfl rfl ?_
                refine e_getR (ci := 0) (k := 4) (pc' := 105) hK rfl (by simp (disch := omega) only [t00, p0, p2, p3, p4, p5, p6, p7, p8, p9, a0, an, aT, stg, sln]) rfl rfl (by decide) (by decide) (by (try simp (disch := omega) only [t00, p0, p2, p3, p4, p5, p6, p7, p8, p9, a0, an, aT, stg, sln]); first | omega) rfl ?_
                try simp (disch := omega) only [t00, p0, p2, p3, p4, p5, p6, p7, p8, p9, a0, an, aT, stg, sln]
                refine e_step (pc' := 106) hK rfl rfl rfl ?_
                refine e_cRV2 (z := 28) (pc' := 109) hK rfl rfl (by first | (simp (disch := omega) only [t00, p0, p2, p3, p4, p5, p6, p7, p8, p9, a0, an, aT, stg, sln]; rfl) | (show _ = 2; assumption) | (show _ = 1; assumption) | (show _ = 0; assumption) | (show _ = 3; assumption) | (show _ = 4; assumption)) rfl (Nat.le_of_ble_eq_true rfl) (Nat.le_of_ble_eq_true rfl) (c_firstOf hA0 i hi) (by decide) rfl ?_
                try simp (disch := omega) only [t00, p0, p2, p3, p4, p5, p6, p7, p8, p9, a0, an, aT, stg, sln]
                refine e_ret hK rfl rfl rfl ?_
                have e9 : sp_template W i x = (0, gfi (wA W) i, W) := by { unfold sp_template; (repeat (first | rw [if_pos (by omega)] | rw [if_neg (by omega)])) }
                rw [e9]
                refine ⟨rfl, rfl, rfl, ?_⟩
                dsimp only
                have := gfi_i (wA W) i; omega
              · skip
                exact absurd hj (by show ¬ _ < 6; omega)
set_option maxRecDepth 10000 in
theorem f_piece {m : Nat} {W : wt} (hL : LtA m h W) (t : Int) (ht : mv_i t) (q : Int) (hq : mv_i q) (x : Int) (hx : mv_i x) : mv_Cl sc q_LT_piece [(2, 0), (0, t), (0, q), (0, x)] c h (fun r c' h' => r = clr 2 0 (sp_piece W t q x).1 (sp_piece W t q x).2.1 ∧ c' = cck (sp_piece W t q x).1 c ∧ h' = h ∧ mv_i (sp_piece W t q x).2.1) := by
  have hL0 := hL
  obtain ⟨⟨⟨t00, p0, p2, p3, p4, p5, p6, p7, p8, p9, t14, l14, g14, t252, l252, g252a, g252b, t263, l263⟩, hTx, hA, hH, hS0, hS1, hSv, hm, hgR, hgRn, hgRs⟩, hsc⟩ := hL
  have hA0 := hA
  obtain ⟨⟨s1, s2, a0, -, -, -, -, -, -, -, -, -, -⟩, hB, an, aT, -⟩ := hA
  have bn := hB.1
  have bT := hB.2.1
  have stg := (hA0.sr t).tag
  have kb := gk_b hB t q
  show mv_Ev sc 59 0 [(2, 0), (0, t), (0, q), (0, x), (5, 0)] [] c h _
  have hK : (mv_m 59).1 = kc_LT_piece := rfl
  refine e_step (pc' := 1) hK rfl rfl rfl ?_
  refine e_step (pc' := 2) hK rfl rfl rfl ?_
  refine e_callX (z := 58) (vs := [(2, 0), (0, t)]) (r := []) hK rfl rfl rfl rfl rfl (Nat.le_of_ble_eq_true rfl) (decide_eq_true (by first | (simp (disch := omega) only [t00, p0, p2, p3, p4, p5, p6, p7, p8, p9, a0, an, aT, stg]; rfl) | (show _ = 2; assumption) | (show _ = 1; assumption) | (show _ = 0; assumption))) (Nat.le_of_ble_eq_true rfl) (by decide) rfl rfl rfl (f_checkTemp hL0 t ht) ?_
  rintro _ _ _ ⟨rfl, hq⟩
  rcases hq with ⟨hx2, rfl, rfl⟩ | ⟨hx2, rfl, rfl⟩
  rotate_left
  · refine Or.inr ⟨rfl, by decide, by decide, ?_⟩
    have e9 : sp_piece W t q x = (1, 0, W) := by { unfold sp_piece; (repeat (first | rw [if_pos (by omega)] | rw [if_neg (by omega)])) }
    rw [e9]
    refine ⟨rfl, rfl, rfl, ?_⟩
    dsimp only
    omega
  refine Or.inl ⟨by decide, ?_⟩
  rw [if_pos rfl]
  show mv_Ev _ _ 5 _ _ _ _ _
  refine e_step (pc' := 6) hK rfl rfl rfl ?_
  refine e_getR (ci := 0) (k := 4) (pc' := 9) hK rfl (by simp (disch := omega) only [t00, p0, p2, p3, p4, p5, p6, p7, p8, p9, a0, an, aT, stg]) rfl rfl (by decide) (by decide) (by (try simp (disch := omega) only [t00, p0, p2, p3, p4, p5, p6, p7, p8, p9, a0, an, aT, stg]); first | omega | exact bo_i _) rfl ?_
  try simp (disch := omega) only [t00, p0, p2, p3, p4, p5, p6, p7, p8, p9, a0, an, aT, stg]
  refine e_step (pc' := 10) hK rfl rfl rfl ?_
  refine e_cRV2 (z := 17) (pc' := 13) hK rfl rfl (by first | (simp (disch := omega) only [t00, p0, p2, p3, p4, p5, p6, p7, p8, p9, a0, an, aT, stg]; rfl) | (show _ = 2; assumption) | (show _ = 1; assumption) | (show _ = 0; assumption) | (show _ = 3; assumption) | (show _ = 4; assumption)) rfl (Nat.le_of_ble_eq_true rfl) (Nat.le_of_ble_eq_true rfl) (c_sampleAt hA0 t ht) (by decide) rfl ?_
  try simp (disch := omega) only [t00, p0, p2, p3, p4, p5, p6, p7, p8, p9, a0, an, aT, stg]
  refine e_step (pc' := 14) hK rfl rfl rfl ?_
  refine e_callX (z := 56) (vs := [(2, srf _ 165 (wA W) t), (0, q)]) (r := []) hK rfl rfl rfl rfl rfl (Nat.le_of_ble_eq_true rfl) rfl (Nat.le_of_ble_eq_true rfl) (by decide) rfl rfl rfl (f_checkPiece (hA0.sr t) q hq) ?_
  rintro _ _ _ ⟨rfl, hq⟩
  rcases hq with ⟨hx14, rfl, rfl⟩ | ⟨hx14, rfl, rfl⟩
  rotate_left
  · refine Or.inr ⟨rfl, by decide, by decide, ?_⟩
    have e9 : sp_piece W t q x = (1, 0, W) := by { unfold sp_piece; (repeat (first | rw [if_pos (by omega)] | rw [if_neg (by omega)])) }
    rw [e9]
    refine ⟨rfl, rfl, rfl, ?_⟩
    dsimp only
    omega
  refine Or.inl ⟨by decide, ?_⟩
  rw [if_pos rfl]
  show mv_Ev _ _ 17 _ _ _ _ _
  refine e_step (pc' := 18) hK rfl rfl rfl ?_
  refine e_getR (ci := 0) (k := 4) (pc' := 21) hK rfl (by simp (disch := omega) only [t00, p0, p2, p3, p4, p5, p6, p7, p8, p9, a0, an, aT, stg]) rfl rfl (by decide) (by decide) (by (try simp (disch := omega) only [t00, p0, p2, p3, p4, p5, p6, p7, p8, p9, a0, an, aT, stg]); first | omega | exact bo_i _) rfl ?_
  try simp (disch := omega) only [t00, p0, p2, p3, p4, p5, p6, p7, p8, p9, a0, an, aT, stg]
  refine e_step (pc' := 22) hK rfl rfl rfl ?_
  refine e_step (pc' := 23) hK rfl rfl rfl ?_
  refine e_cRV3 (z := 18) (pc' := 26) hK rfl rfl (by first | (simp (disch := omega) only [t00, p0, p2, p3, p4, p5, p6, p7, p8, p9, a0, an, aT, stg]; rfl) | (show _ = 2; assumption) | (show _ = 1; assumption) | (show _ = 0; assumption) | (show _ = 3; assumption) | (show _ = 4; assumption)) rfl (Nat.le_of_ble_eq_true rfl) (Nat.le_of_ble_eq_true rfl) (c_kindIn hA0 t q ht hq) (by decide) rfl ?_
  try simp (disch := omega) only [t00, p0, p2, p3, p4, p5, p6, p7, p8, p9, a0, an, aT, stg]
  refine e_step (pc' := 28) hK rfl rfl rfl ?_
  try simp only [List.set_cons_zero, List.set_cons_succ]
  refine e_step (pc' := 29) hK rfl rfl rfl ?_
  refine e_tsw (td := 94) hK rfl (by first | omega | exact bo_i _) rfl (by decide) (by decide) (fun hb29 => ?_) (fun j hj hb29 => ?_)
  · skip
    refine e_thr (E := 0) hK rfl rfl rfl rfl ?_
    have e9 : sp_piece W t q x = (2, 0, W) := by { unfold sp_piece; (repeat (first | rw [if_pos (by omega)] | rw [if_neg (by omega)])) }
    rw [e9]
    refine ⟨rfl, rfl, rfl, ?_⟩
    dsimp only
    omega
  · skip
    rcases j with _ | j
    · show mv_Ev _ _ 56 _ _ _ _ _
      refine e_step (pc' := 58) hK rfl rfl rfl ?_
      refine e_ret hK rfl rfl rfl ?_
      have e9 : sp_piece W t q x = (0, gk (wA W) t q, W) := by { unfold sp_piece; (repeat (first | rw [if_pos (by omega)] | rw [if_neg (by omega)])) }
      rw [e9]
      refine ⟨rfl, rfl, rfl, ?_⟩
      dsimp only
      omega
    · skip
      rcases j with _ | j
      · show mv_Ev _ _ 59 _ _ _ _ _
        refine e_step (pc' := 61) hK rfl rfl rfl ?_
        refine e_cRS1 (z := 45) (pc' := 64) hK rfl rfl rfl (Nat.le_of_ble_eq_true rfl) (Nat.le_of_ble_eq_true rfl) (c_isSlot (gk (wA W) t q) (by omega)) (by decide) rfl ?_
        try simp (disch := omega) only [t00, p0, p2, p3, p4, p5, p6, p7, p8, p9, a0, an, aT, stg]
        refine e_if (t := 71) (pc' := 67) hK rfl (by first | omega | exact bo_i _) (by decide) rfl (fun hb64 => ?_) (fun hb64 => ?_)
        · replace hb64 := cq_eq.1.mp hb64
          try simp only [bo_0, Bool.not_eq_false] at hb64
          refine e_step (pc' := 72) hK rfl rfl rfl ?_
          refine e_getR (ci := 0) (k := 4) (pc' := 75) hK rfl (by simp (disch := omega) only [t00, p0, p2, p3, p4, p5, p6, p7, p8, p9, a0, an, aT, stg]) rfl rfl (by decide) (by decide) (by (try simp (disch := omega) only [t00, p0, p2, p3, p4, p5, p6, p7, p8, p9, a0, an, aT, stg]); first | omega | exact bo_i _) rfl ?_
          try simp (disch := omega) only [t00, p0, p2, p3, p4, p5, p6, p7, p8, p9, a0, an, aT, stg]
          refine e_step (pc' := 76) hK rfl rfl rfl ?_
          refine e_cRV2 (z := 17) (pc' := 79) hK rfl rfl (by first | (simp (disch := omega) only [t00, p0, p2, p3, p4, p5, p6, p7, p8, p9, a0, an, aT, stg]; rfl) | (show _ = 2; assumption) | (show _ = 1; assumption) | (show _ = 0; assumption) | (show _ = 3; assumption) | (show _ = 4; assumption)) rfl (Nat.le_of_ble_eq_true rfl) (Nat.le_of_ble_eq_true rfl) (c_sampleAt hA0 t ht) (by decide) rfl ?_
          try simp (disch := omega) only [t00, p0, p2, p3, p4, p5, p6, p7, p8, p9, a0, an, aT, stg]
          refine e_step (pc' := 80) hK rfl rfl rfl ?_
          refine e_cRV2 (z := 10) (pc' := 83) hK rfl rfl (by first | (simp (disch := omega) only [t00, p0, p2, p3, p4, p5, p6, p7, p8, p9, a0, an, aT, stg]; rfl) | (show _ = 2; assumption) | (show _ = 1; assumption) | (show _ = 0; assumption) | (show _ = 3; assumption) | (show _ = 4; assumption)) rfl (Nat.le_of_ble_eq_true rfl) (Nat.le_of_ble_eq_true rfl) (x_sizeAt (hA0.sr t) q hq) (by decide) rfl ?_
          try simp (disch := omega) only [t00, p0, p2, p3, p4, p5, p6, p7, p8, p9, a0, an, aT, stg]
          refine e_ret hK rfl rfl rfl ?_
          simp only [Bool.or_eq_false_iff, decide_eq_false_iff_not] at hb64
          have k0 : 0 ≤ gk (wA W) t q := by { have hsr := (hA0.sr t).ok; cases hg : go (wA W) t q with | true => (rw [go_k hg]; omega) | false => { rw [go_n hg]; exact (xp_b hsr (by omega) (by omega)).1 } }
          have e9 : sp_piece W t q x = (0, xz (gs (wA W) t) q, W) := by { unfold sp_piece; (repeat (first | rw [if_pos (by omega)] | rw [if_neg (by omega)])) }
          rw [e9]
          refine ⟨rfl, rfl, rfl, ?_⟩
          dsimp only
          have := xz_b (gs_ok hB t) q; omega
        · replace hb64 := cq_eq.2.mp hb64
          try simp only [bo_0, Bool.not_eq_false] at hb64
          refine e_step (pc' := 68) hK rfl rfl rfl ?_
          refine e_goto (t := 83) hK rfl (by decide) ?_
          refine e_ret hK rfl rfl rfl ?_
          simp only [Bool.or_eq_true, decide_eq_true_eq] at hb64
          have e9 : sp_piece W t q x = (0, 0, W) := by { unfold sp_piece; (repeat (first | rw [if_pos (by omega)] | rw [if_neg (by omega)])) }
          rw [e9]
          refine ⟨rfl, rfl, rfl, ?_⟩
          dsimp only
          omega
      · skip
        rcases j with _ | j
        · show mv_Ev _ _ 84 _ _ _ _ _
          refine e_step (pc' := 85) hK rfl rfl rfl ?_
          refine e_getR (ci := 0) (k := 4) (pc' := 88) hK rfl (by simp (disch := omega) only [t00, p0, p2, p3, p4, p5, p6, p7, p8, p9, a0, an, aT, stg]) rfl rfl (by decide) (by decide) (by (try simp (disch := omega) only [t00, p0, p2, p3, p4, p5, p6, p7, p8, p9, a0, an, aT, stg]); first | omega | exact bo_i _) rfl ?_
          try simp (disch := omega) only [t00, p0, p2, p3, p4, p5, p6, p7, p8, p9, a0, an, aT, stg]
          refine e_step (pc' := 89) hK rfl rfl rfl ?_
          refine e_step (pc' := 90) hK rfl rfl rfl ?_
          refine e_cRS3 (z := 91) (pc' := 93) hK rfl rfl rfl (Nat.le_of_ble_eq_true rfl) (Nat.le_of_ble_eq_true rfl) (c_things hA0 t q ht hq) (by decide) rfl ?_
          try simp (disch := omega) only [t00, p0, p2, p3, p4, p5, p6, p7, p8, p9, a0, an, aT, stg]
          refine e_ret hK rfl rfl rfl ?_
          have e9 : sp_piece W t q x = (0, cdt (wA W) t q, W) := by { unfold sp_piece; (repeat (first | rw [if_pos (by omega)] | rw [if_neg (by omega)])) }
          rw [e9]
          refine ⟨rfl, rfl, rfl, ?_⟩
          dsimp only
          have := cdt_b hB t q; omega
        · skip
          exact absurd hj (by show ¬ _ < 3; omega)
set_option maxRecDepth 10000 in
theorem f_rises {m : Nat} {W : wt} (hL : LtA m h W) (t : Int) (ht : mv_i t) (q : Int) (hq : mv_i q) : mv_Cl sc q_LT_rises [(2, 0), (0, t), (0, q)] c h (fun r c' h' => r = clr 2 9 (sp_rises W t q).1 (sp_rises W t q).2.1 ∧ c' = cck (sp_rises W t q).1 c ∧ h' = h ∧ mv_i (sp_rises W t q).2.1) := by
  have hL0 := hL
  obtain ⟨⟨⟨t00, p0, p2, p3, p4, p5, p6, p7, p8, p9, t14, l14, g14, t252, l252, g252a, g252b, t263, l263⟩, hTx, hA, hH, hS0, hS1, hSv, hm, hgR, hgRn, hgRs⟩, hsc⟩ := hL
  have hA0 := hA
  obtain ⟨⟨s1, s2, a0, -, -, -, -, -, -, -, -, -, -⟩, hB, an, aT, -⟩ := hA
  have bn := hB.1
  have bT := hB.2.1
  have stg := (hA0.sr t).tag
  have kb := gk_b hB t q
  show mv_Ev sc 60 0 [(2, 0), (0, t), (0, q)] [] c h _
  have hK : (mv_m 60).1 = kc_LT_rises := rfl
  refine e_step (pc' := 1) hK rfl rfl rfl ?_
  refine e_step (pc' := 2) hK rfl rfl rfl ?_
  refine e_callX (z := 58) (vs := [(2, 0), (0, t)]) (r := []) hK rfl rfl rfl rfl rfl (Nat.le_of_ble_eq_true rfl) (decide_eq_true (by first | (simp (disch := omega) only [t00, p0, p2, p3, p4, p5, p6, p7, p8, p9, a0, an, aT, stg]; rfl) | (show _ = 2; assumption) | (show _ = 1; assumption) | (show _ = 0; assumption))) (Nat.le_of_ble_eq_true rfl) (by decide) rfl rfl rfl (f_checkTemp hL0 t ht) ?_
  rintro _ _ _ ⟨rfl, hq⟩
  rcases hq with ⟨hx2, rfl, rfl⟩ | ⟨hx2, rfl, rfl⟩
  rotate_left
  · refine Or.inr ⟨rfl, by decide, by decide, ?_⟩
    have e9 : sp_rises W t q = (1, 0, W) := by { unfold sp_rises; (repeat (first | rw [if_pos (by omega)] | rw [if_neg (by omega)])) }
    rw [e9]
    refine ⟨rfl, rfl, rfl, ?_⟩
    dsimp only
    omega
  refine Or.inl ⟨by decide, ?_⟩
  rw [if_pos rfl]
  show mv_Ev _ _ 5 _ _ _ _ _
  refine e_step (pc' := 6) hK rfl rfl rfl ?_
  refine e_getR (ci := 0) (k := 4) (pc' := 9) hK rfl (by simp (disch := omega) only [t00, p0, p2, p3, p4, p5, p6, p7, p8, p9, a0, an, aT, stg]) rfl rfl (by decide) (by decide) (by (try simp (disch := omega) only [t00, p0, p2, p3, p4, p5, p6, p7, p8, p9, a0, an, aT, stg]); first | omega) rfl ?_
  try simp (disch := omega) only [t00, p0, p2, p3, p4, p5, p6, p7, p8, p9, a0, an, aT, stg]
  refine e_step (pc' := 10) hK rfl rfl rfl ?_
  refine e_cRV2 (z := 17) (pc' := 13) hK rfl rfl (by first | (simp (disch := omega) only [t00, p0, p2, p3, p4, p5, p6, p7, p8, p9, a0, an, aT, stg]; rfl) | (show _ = 2; assumption) | (show _ = 1; assumption) | (show _ = 0; assumption) | (show _ = 3; assumption) | (show _ = 4; assumption)) rfl (Nat.le_of_ble_eq_true rfl) (Nat.le_of_ble_eq_true rfl) (c_sampleAt hA0 t ht) (by decide) rfl ?_
  try simp (disch := omega) only [t00, p0, p2, p3, p4, p5, p6, p7, p8, p9, a0, an, aT, stg]
  refine e_step (pc' := 14) hK rfl rfl rfl ?_
  refine e_callX (z := 56) (vs := [(2, srf _ 165 (wA W) t), (0, q)]) (r := []) hK rfl rfl rfl rfl rfl (Nat.le_of_ble_eq_true rfl) rfl (Nat.le_of_ble_eq_true rfl) (by decide) rfl rfl rfl (f_checkPiece (hA0.sr t) q hq) ?_
  rintro _ _ _ ⟨rfl, hq⟩
  rcases hq with ⟨hx14, rfl, rfl⟩ | ⟨hx14, rfl, rfl⟩
  rotate_left
  · refine Or.inr ⟨rfl, by decide, by decide, ?_⟩
    have e9 : sp_rises W t q = (1, 0, W) := by { unfold sp_rises; (repeat (first | rw [if_pos (by omega)] | rw [if_neg (by omega)])) }
    rw [e9]
    refine ⟨rfl, rfl, rfl, ?_⟩
    dsimp only
    omega
  refine Or.inl ⟨by decide, ?_⟩
  rw [if_pos rfl]
  show mv_Ev _ _ 17 _ _ _ _ _
  refine e_step (pc' := 18) hK rfl rfl rfl ?_
  refine e_getR (ci := 0) (k := 4) (pc' := 21) hK rfl (by simp (disch := omega) only [t00, p0, p2, p3, p4, p5, p6, p7, p8, p9, a0, an, aT, stg]) rfl rfl (by decide) (by decide) (by (try simp (disch := omega) only [t00, p0, p2, p3, p4, p5, p6, p7, p8, p9, a0, an, aT, stg]); first | omega) rfl ?_
  try simp (disch := omega) only [t00, p0, p2, p3, p4, p5, p6, p7, p8, p9, a0, an, aT, stg]
  refine e_step (pc' := 22) hK rfl rfl rfl ?_
  refine e_step (pc' := 23) hK rfl rfl rfl ?_
  refine e_cRV3 (z := 18) (pc' := 26) hK rfl rfl (by first | (simp (disch := omega) only [t00, p0, p2, p3, p4, p5, p6, p7, p8, p9, a0, an, aT, stg]; rfl) | (show _ = 2; assumption) | (show _ = 1; assumption) | (show _ = 0; assumption) | (show _ = 3; assumption) | (show _ = 4; assumption)) rfl (Nat.le_of_ble_eq_true rfl) (Nat.le_of_ble_eq_true rfl) (c_kindIn hA0 t q ht hq) (by decide) rfl ?_
  try simp (disch := omega) only [t00, p0, p2, p3, p4, p5, p6, p7, p8, p9, a0, an, aT, stg]
  refine e_step (pc' := 27) hK rfl rfl rfl ?_
  refine e_icmp (t := 42) (pc' := 30) hK rfl (by first | omega) (by first | omega) (by decide) rfl (fun hb27 => ?_) (fun hb27 => ?_)
  · replace hb27 := cq_ne.1.mp hb27
    refine e_step (pc' := 45) hK rfl rfl rfl ?_
    refine e_ret hK rfl rfl rfl ?_
    have e9 : sp_rises W t q = (0, -9999, W) := by { unfold sp_rises; (repeat (first | rw [if_pos (by omega)] | rw [if_neg (by omega)])) }
    rw [e9]
    refine ⟨rfl, rfl, rfl, ?_⟩
    dsimp only
    omega
  · replace hb27 := cq_ne.2.mp hb27
    refine e_step (pc' := 31) hK rfl rfl rfl ?_
    refine e_getR (ci := 0) (k := 4) (pc' := 34) hK rfl (by simp (disch := omega) only [t00, p0, p2, p3, p4, p5, p6, p7, p8, p9, a0, an, aT, stg]) rfl rfl (by decide) (by decide) (by (try simp (disch := omega) only [t00, p0, p2, p3, p4, p5, p6, p7, p8, p9, a0, an, aT, stg]); first | omega) rfl ?_
    try simp (disch := omega) only [t00, p0, p2, p3, p4, p5, p6, p7, p8, p9, a0, an, aT, stg]
    refine e_step (pc' := 35) hK rfl rfl rfl ?_
    refine e_step (pc' := 36) hK rfl rfl rfl ?_
    refine e_cRS3 (z := 92) (pc' := 39) hK rfl rfl rfl (Nat.le_of_ble_eq_true rfl) (Nat.le_of_ble_eq_true rfl) (c_rise hA0 t q ht hq) (by decide) rfl ?_
    try simp (disch := omega) only [t00, p0, p2, p3, p4, p5, p6, p7, p8, p9, a0, an, aT, stg]
    refine e_goto (t := 45) hK rfl (by decide) ?_
    refine e_ret hK rfl rfl rfl ?_
    have e9 : sp_rises W t q = (0, crs (wA W) t q (gn (wA W)) 0 0 0, W) := by { unfold sp_rises; (repeat (first | rw [if_pos (by omega)] | rw [if_neg (by omega)])) }
    rw [e9]
    refine ⟨rfl, rfl, rfl, ?_⟩
    dsimp only
    have := crs_b (A := wA W) t q (gn (wA W)) 0 0 0; omega
set_option maxRecDepth 10000 in
theorem f_next {m : Nat} {W : wt} (hL : LtA m h W) (i : Int) (hi : mv_i i) (x : Int) (hx : mv_i x) : mv_Cl sc q_LT_next [(2, 0), (0, i), (0, x)] c h (fun r c' h' => r = clr 2 0 (sp_next W i x).1 (sp_next W i x).2.1 ∧ c' = cck (sp_next W i x).1 c ∧ h' = h ∧ mv_i (sp_next W i x).2.1) := by
  have hL0 := hL
  obtain ⟨⟨⟨t00, p0, p2, p3, p4, p5, p6, p7, p8, p9, t14, l14, g14, t252, l252, g252a, g252b, t263, l263⟩, hTx, hA, hH, hS0, hS1, hSv, hm, hgR, hgRn, hgRs⟩, hsc⟩ := hL
  have hA0 := hA
  obtain ⟨⟨s1, s2, a0, -, -, -, -, -, -, -, -, -, -⟩, hB, an, aT, -⟩ := hA
  have bn := hB.1
  have bT := hB.2.1
  show mv_Ev sc 67 0 [(2, 0), (0, i), (0, x)] [] c h _
  have hK : (mv_m 67).1 = kc_LT_next := rfl
  refine e_step (pc' := 1) hK rfl rfl rfl ?_
  refine e_step (pc' := 2) hK rfl rfl rfl ?_
  refine e_callX (z := 58) (vs := [(2, 0), (0, i)]) (r := []) hK rfl rfl rfl rfl rfl (Nat.le_of_ble_eq_true rfl) (decide_eq_true (by first | (simp (disch := omega) only [t00, p0, p2, p3, p4, p5, p6, p7, p8, p9, a0, an, aT]; rfl) | (show _ = 2; assumption) | (show _ = 1; assumption) | (show _ = 0; assumption))) (Nat.le_of_ble_eq_true rfl) (by decide) rfl rfl rfl (f_checkTemp hL0 i hi) ?_
  rintro _ _ _ ⟨rfl, hq⟩
  rcases hq with ⟨hx2, rfl, rfl⟩ | ⟨hx2, rfl, rfl⟩
  rotate_left
  · refine Or.inr ⟨rfl, by decide, by decide, ?_⟩
    have e9 : sp_next W i x = (1, 0, W) := by { unfold sp_next; (repeat (first | rw [if_pos (by omega)] | rw [if_neg (by omega)])) }
    rw [e9]
    refine ⟨rfl, rfl, rfl, ?_⟩
    dsimp only
    omega
  refine Or.inl ⟨by decide, ?_⟩
  rw [if_pos rfl]
  show mv_Ev _ _ 5 _ _ _ _ _
  refine e_step (pc' := 6) hK rfl rfl rfl ?_
  refine e_if (t := 19) (pc' := 9) hK rfl (by first | omega) (by decide) rfl (fun hb6 => ?_) (fun hb6 => ?_)
  · replace hb6 := cq_ge.1.mp hb6
    refine e_step (pc' := 20) hK rfl rfl rfl ?_
    refine e_getR (ci := 0) (k := 4) (pc' := 23) hK rfl (by simp (disch := omega) only [t00, p0, p2, p3, p4, p5, p6, p7, p8, p9, a0, an, aT]) rfl rfl (by decide) (by decide) (by (try simp (disch := omega) only [t00, p0, p2, p3, p4, p5, p6, p7, p8, p9, a0, an, aT]); first | omega) rfl ?_
    try simp (disch := omega) only [t00, p0, p2, p3, p4, p5, p6, p7, p8, p9, a0, an, aT]
    refine e_step (pc' := 24) hK rfl rfl rfl ?_
    refine e_step (pc' := 25) hK rfl rfl rfl ?_
    refine e_cRS3 (z := 96) (pc' := 28) hK rfl rfl rfl (Nat.le_of_ble_eq_true rfl) (Nat.le_of_ble_eq_true rfl) (c_exc hA0 i x hi hx (by omega)) (by decide) rfl ?_
    try simp (disch := omega) only [t00, p0, p2, p3, p4, p5, p6, p7, p8, p9, a0, an, aT]
    refine e_ret hK rfl rfl rfl ?_
    have e9 : sp_next W i x = (0, exc (wA W) i x, W) := by { unfold sp_next; (repeat (first | rw [if_pos (by omega)] | rw [if_neg (by omega)])) }
    rw [e9]
    refine ⟨rfl, rfl, rfl, ?_⟩
    dsimp only
    have := exl_b hB (gla (wA W) i) (xn (gl (wA W) (gla (wA W) i))).toNat 0 x; show mv_i (exl _ _ _ _ _); omega
  · replace hb6 := cq_ge.2.mp hb6
    refine e_thr (E := 0) hK rfl rfl rfl rfl ?_
    have e9 : sp_next W i x = (2, 0, W) := by { unfold sp_next; (repeat (first | rw [if_pos (by omega)] | rw [if_neg (by omega)])) }
    rw [e9]
    refine ⟨rfl, rfl, rfl, ?_⟩
    dsimp only
    omega
set_option maxRecDepth 10000 in
theorem f_withv {m : Nat} {W : wt} (hL : LtA m h W) (x : Int) (hx : mv_i x) : mv_Cl sc q_LT_withValue [(2, 0), (0, x)] c h (fun r c' h' => r = clr 0 9 (sp_withv W x).1 (sp_withv W x).2.1 ∧ c' = cck (sp_withv W x).1 c ∧ h' = h ∧ mv_i (sp_withv W x).2.1) := by
  have hL0 := hL
  obtain ⟨⟨⟨t00, p0, p2, p3, p4, p5, p6, p7, p8, p9, t14, l14, g14, t252, l252, g252a, g252b, t263, l263⟩, hTx, hA, hH, hS0, hS1, hSv, hm, hgR, hgRn, hgRs⟩, hsc⟩ := hL
  have hA0 := hA
  obtain ⟨⟨s1, s2, a0, -, -, -, -, -, -, -, -, -, -⟩, hB, an, aT, -⟩ := hA
  have bn := hB.1
  have bT := hB.2.1
  show mv_Ev sc 70 0 [(2, 0), (0, x)] [] c h _
  have hK : (mv_m 70).1 = kc_LT_withValue := rfl
  refine e_step (pc' := 1) hK rfl rfl rfl ?_
  refine e_if (t := 10) (pc' := 4) hK rfl (by first | omega) (by decide) rfl (fun hb1 => ?_) (fun hb1 => ?_)
  · replace hb1 := cq_lt.1.mp hb1
    refine e_thr (E := 0) hK rfl rfl rfl rfl ?_
    have e9 : sp_withv W x = (1, 0, W) := by { unfold sp_withv; (repeat (first | rw [if_pos (by omega)] | rw [if_neg (by omega)])) }
    rw [e9]
    refine ⟨rfl, rfl, rfl, ?_⟩
    dsimp only
    omega
  · replace hb1 := cq_lt.2.mp hb1
    refine e_step (pc' := 5) hK rfl rfl rfl ?_
    refine e_step (pc' := 7) hK rfl rfl rfl ?_
    refine e_icmp (t := 20) (pc' := 10) hK rfl (by first | omega) (by first | omega) (by decide) rfl (fun hb7 => ?_) (fun hb7 => ?_)
    · replace hb7 := cq_le.1.mp hb7
      refine e_step (pc' := 21) hK rfl rfl rfl ?_
      refine e_getR (ci := 0) (k := 4) (pc' := 24) hK rfl (by simp (disch := omega) only [t00, p0, p2, p3, p4, p5, p6, p7, p8, p9, a0, an, aT]) rfl rfl (by decide) (by decide) (by (try simp (disch := omega) only [t00, p0, p2, p3, p4, p5, p6, p7, p8, p9, a0, an, aT]); first | omega) rfl ?_
      try simp (disch := omega) only [t00, p0, p2, p3, p4, p5, p6, p7, p8, p9, a0, an, aT]
      refine e_step (pc' := 25) hK rfl rfl rfl ?_
      refine e_cRS2 (z := 93) (pc' := 28) hK rfl rfl rfl (Nat.le_of_ble_eq_true rfl) (Nat.le_of_ble_eq_true rfl) (c_withv hA0 x hx) (by decide) rfl ?_
      try simp (disch := omega) only [t00, p0, p2, p3, p4, p5, p6, p7, p8, p9, a0, an, aT]
      refine e_ret hK rfl rfl rfl ?_
      have e9 : sp_withv W x = (0, clv (wA W) x, W) := by { unfold sp_withv; (repeat (first | rw [if_pos (by omega)] | rw [if_neg (by omega)])) }
      rw [e9]
      refine ⟨rfl, rfl, rfl, ?_⟩
      dsimp only
      have := clv_b hB x; omega
    · replace hb7 := cq_le.2.mp hb7
      refine e_thr (E := 0) hK rfl rfl rfl rfl ?_
      have e9 : sp_withv W x = (1, 0, W) := by { unfold sp_withv; (repeat (first | rw [if_pos (by omega)] | rw [if_neg (by omega)])) }
      rw [e9]
      refine ⟨rfl, rfl, rfl, ?_⟩
      dsimp only
      omega
end FA
