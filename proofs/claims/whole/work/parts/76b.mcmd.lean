/-! the reference's face: commands (written by wip/whole/m76.py) -/
section GF
variable {sc : Int × (Int → Int)} {c : mv_C} {h : mv_H} {v : mvt}
set_option maxRecDepth 20000 in
theorem g_command {D : lg} (hR : Rw (v 267) D) (hz : sz D) (k : Int) (hk : 0 ≤ k ∧ k ≤ 9) (a o : Int) (ho : 0 ≤ o ∧ o ≤ 999) (ha : a = (o.tdiv 10).tdiv 10) : mv_Cl sc q_Mod_command [(2, 264), (0, k), (0, a), (0, o)] c (mH h v) (fun r c' h' => r = (0, mv_bo (gcm D k o).1) ∧ c' = c ∧ ∃ w, h' = mH h w ∧ (∀ b : Int, b ≠ 267 → b ≠ 268 → b ≠ 272 → b ≠ 273 → b ≠ 274 → w b = v b) ∧ ((gcm D k o).1 = true → Rw (w 267) (gcm D k o).2)) := by
  obtain ⟨hI, bn, bT⟩ := id hz
  have r0 := hR.1
  have r1 := hR.2.1
  have e3 : o.tmod 10 = o % 10 := Int.tmod_eq_emod_of_nonneg ho.1
  have e4 : o.tdiv 10 = o / 10 := Int.tdiv_eq_ediv_of_nonneg ho.1
  have e5 : (o.tdiv 10).tmod 10 = (o.tdiv 10) % 10 := Int.tmod_eq_emod_of_nonneg (by omega)
  have e6 : (o.tdiv 10).tdiv 10 = (o.tdiv 10) / 10 := Int.tdiv_eq_ediv_of_nonneg (by omega)
  subst ha
  show mv_Ev sc 178 0 [(2, 264), (0, k), (0, (o.tdiv 10).tdiv 10), (0, o), (5, 0), (5, 0)] [] c (mH h v) _
  have hK : (mv_m 178).1 = kc_Mod_command := rfl
  refine e_step (pc' := 1) hK rfl rfl rfl ?_
  refine e_step (pc' := 3) hK rfl rfl rfl ?_
  refine e_idiv (pc' := 4) hK rfl (by first | omega | exact bo_i _ | (have q9 := (gdrop_sz (A := D) (i := o.tdiv 10)).2; omega) | (have q9 := (sz_gall 12 hz).2.2; omega) | (have q9 := glt_b D; unfold glv; split <;> omega)) (by first | omega | exact bo_i _ | (have q9 := (gdrop_sz (A := D) (i := o.tdiv 10)).2; omega) | (have q9 := (sz_gall 12 hz).2.2; omega) | (have q9 := glt_b D; unfold glv; split <;> omega)) (by first | omega | exact bo_i _ | (have q9 := (gdrop_sz (A := D) (i := o.tdiv 10)).2; omega) | (have q9 := (sz_gall 12 hz).2.2; omega) | (have q9 := glt_b D; unfold glv; split <;> omega)) rfl ?_
  refine e_step (pc' := 6) hK rfl rfl rfl ?_
  try simp only [List.set_cons_zero, List.set_cons_succ]
  refine e_step (pc' := 7) hK rfl rfl rfl ?_
  refine e_step (pc' := 9) hK rfl rfl rfl ?_
  refine e_irem (pc' := 10) hK rfl (by first | omega | exact bo_i _ | (have q9 := (gdrop_sz (A := D) (i := o.tdiv 10)).2; omega) | (have q9 := (sz_gall 12 hz).2.2; omega) | (have q9 := glt_b D; unfold glv; split <;> omega)) (by first | omega | exact bo_i _ | (have q9 := (gdrop_sz (A := D) (i := o.tdiv 10)).2; omega) | (have q9 := (sz_gall 12 hz).2.2; omega) | (have q9 := glt_b D; unfold glv; split <;> omega)) (by first | omega | exact bo_i _ | (have q9 := (gdrop_sz (A := D) (i := o.tdiv 10)).2; omega) | (have q9 := (sz_gall 12 hz).2.2; omega) | (have q9 := glt_b D; unfold glv; split <;> omega)) rfl ?_
  refine e_step (pc' := 12) hK rfl rfl rfl ?_
  try simp only [List.set_cons_zero, List.set_cons_succ]
  refine e_step (pc' := 13) hK rfl rfl rfl ?_
  refine e_tsw (td := 364) hK rfl (by first | omega | exact bo_i _ | (have q9 := (gdrop_sz (A := D) (i := o.tdiv 10)).2; omega) | (have q9 := (sz_gall 12 hz).2.2; omega) | (have q9 := glt_b D; unfold glv; split <;> omega)) rfl (by decide) (by decide) (fun hb13 => ?_) (fun j hj hb13 => ?_)
  · skip
    refine e_step (pc' := 365) hK rfl rfl rfl ?_
    refine e_ret hK rfl rfl (by first | rfl | (simp only [mv_ret]; rw [if_pos]; exact Or.inr ⟨rfl, by omega⟩) | (simp only [mv_ret]; rw [if_pos]; exact Or.inr ⟨rfl, by unfold mv_bo; split <;> first | exact Or.inl rfl | exact Or.inr rfl⟩)) ?_
    have eg : (gcm D k o).1 = false := by { unfold gcm; (iterate 9 (rw [if_neg (by omega)])) }
    exact ⟨by rw [eg]; rfl, rfl, v, rfl, fun b _ _ _ _ _ => rfl, fun q => by { rw [eg] at q; cases q }⟩
  · skip
    rcases j with _ | j
    · show mv_Ev _ _ 64 _ _ _ _ _
      refine e_step (pc' := 66) hK rfl rfl rfl ?_
      refine e_if (t := 109) (pc' := 69) hK rfl (by first | omega | exact bo_i _ | (have q9 := (gdrop_sz (A := D) (i := o.tdiv 10)).2; omega) | (have q9 := (sz_gall 12 hz).2.2; omega) | (have q9 := glt_b D; unfold glv; split <;> omega)) (by decide) rfl (fun hb66 => ?_) (fun hb66 => ?_)
      · replace hb66 := cq_ne.1.mp hb66
        try simp only [bo_0, Bool.not_eq_false] at hb66
        refine e_step (pc' := 110) hK rfl rfl rfl ?_
        refine e_ret hK rfl rfl (by first | rfl | (simp only [mv_ret]; rw [if_pos]; exact Or.inr ⟨rfl, by omega⟩) | (simp only [mv_ret]; rw [if_pos]; exact Or.inr ⟨rfl, by unfold mv_bo; split <;> first | exact Or.inl rfl | exact Or.inr rfl⟩)) ?_
        have eg : (gcm D k o).1 = false := by { unfold gcm; rw [if_pos (by omega)]; rw [if_neg hb66] }
        exact ⟨by rw [eg]; rfl, rfl, v, rfl, fun b _ _ _ _ _ => rfl, fun q => by { rw [eg] at q; cases q }⟩
      · replace hb66 := cq_ne.2.mp hb66
        try simp only [bo_0, Bool.not_eq_false] at hb66
        refine e_step (pc' := 70) hK rfl rfl rfl ?_
        refine e_getR (ci := 4) (k := 4) (pc' := 73) hK rfl (by simp (disch := omega) only [mH_t64, mH_r1, mH_r3, mH_r4, mH_r5, mH_r6, mH_r8, mH_r9, mH_r10, mH_r11, mH_r12, mH_r14, mH_i0, mH_i2, mH_i7, mH_i13, mH_i15, mH_t71, mH_t, mH_lr, mH_l65, mH_l69, mH_l70, mH_l71, mH_l72, mH_l73, mH_l74, mH_l75, mH_c, r0, r1]) rfl rfl (by decide) (by decide) (by (try simp (disch := omega) only [mH_t64, mH_r1, mH_r3, mH_r4, mH_r5, mH_r6, mH_r8, mH_r9, mH_r10, mH_r11, mH_r12, mH_r14, mH_i0, mH_i2, mH_i7, mH_i13, mH_i15, mH_t71, mH_t, mH_lr, mH_l65, mH_l69, mH_l70, mH_l71, mH_l72, mH_l73, mH_l74, mH_l75, mH_c, r0, r1]); first | omega | exact bo_i _ | (have q9 := (gdrop_sz (A := D) (i := o.tdiv 10)).2; omega) | (have q9 := (sz_gall 12 hz).2.2; omega) | (have q9 := glt_b D; unfold glv; split <;> omega)) rfl ?_
        try simp (disch := omega) only [mH_t64, mH_r1, mH_r3, mH_r4, mH_r5, mH_r6, mH_r8, mH_r9, mH_r10, mH_r11, mH_r12, mH_r14, mH_i0, mH_i2, mH_i7, mH_i13, mH_i15, mH_t71, mH_t, mH_lr, mH_l65, mH_l69, mH_l70, mH_l71, mH_l72, mH_l73, mH_l74, mH_l75, mH_c, r0, r1]
        refine e_step (pc' := 75) hK rfl rfl rfl ?_
        refine e_cRS2 (z := 134) (pc' := 78) hK rfl rfl rfl (Nat.le_of_ble_eq_true rfl) (Nat.le_of_ble_eq_true rfl) (m_isLine 267 (by omega) (o.tdiv 10) (by omega) (by rw [r0]; omega)) (by decide) rfl ?_
        try simp (disch := omega) only [mH_t64, mH_r1, mH_r3, mH_r4, mH_r5, mH_r6, mH_r8, mH_r9, mH_r10, mH_r11, mH_r12, mH_r14, mH_i0, mH_i2, mH_i7, mH_i13, mH_i15, mH_t71, mH_t, mH_lr, mH_l65, mH_l69, mH_l70, mH_l71, mH_l72, mH_l73, mH_l74, mH_l75, mH_c, r0, r1]
        refine e_if (t := 109) (pc' := 81) hK rfl (by first | omega | exact bo_i _ | (have q9 := (gdrop_sz (A := D) (i := o.tdiv 10)).2; omega) | (have q9 := (sz_gall 12 hz).2.2; omega) | (have q9 := glt_b D; unfold glv; split <;> omega)) (by decide) rfl (fun hb78 => ?_) (fun hb78 => ?_)
        · replace hb78 := cq_eq.1.mp hb78
          try simp only [bo_0, Bool.not_eq_false] at hb78
          refine e_step (pc' := 110) hK rfl rfl rfl ?_
          refine e_ret hK rfl rfl (by first | rfl | (simp only [mv_ret]; rw [if_pos]; exact Or.inr ⟨rfl, by omega⟩) | (simp only [mv_ret]; rw [if_pos]; exact Or.inr ⟨rfl, by unfold mv_bo; split <;> first | exact Or.inl rfl | exact Or.inr rfl⟩)) ?_
          simp only [Bool.and_eq_false_iff, decide_eq_false_iff_not] at hb78
          have eg : (gcm D k o).1 = false := by { unfold gcm; rw [if_pos (by omega)]; rw [if_pos hb66]; exact (gag_m hz).1 (by omega) }
          exact ⟨by rw [eg]; rfl, rfl, v, rfl, fun b _ _ _ _ _ => rfl, fun q => by { rw [eg] at q; cases q }⟩
        · replace hb78 := cq_eq.2.mp hb78
          try simp only [bo_0, Bool.not_eq_false] at hb78
          simp only [Bool.and_eq_true, decide_eq_true_eq] at hb78
          refine e_step (pc' := 82) hK rfl rfl rfl ?_
          refine e_getR (ci := 4) (k := 4) (pc' := 85) hK rfl (by simp (disch := omega) only [mH_t64, mH_r1, mH_r3, mH_r4, mH_r5, mH_r6, mH_r8, mH_r9, mH_r10, mH_r11, mH_r12, mH_r14, mH_i0, mH_i2, mH_i7, mH_i13, mH_i15, mH_t71, mH_t, mH_lr, mH_l65, mH_l69, mH_l70, mH_l71, mH_l72, mH_l73, mH_l74, mH_l75, mH_c, r0, r1]) rfl rfl (by decide) (by decide) (by (try simp (disch := omega) only [mH_t64, mH_r1, mH_r3, mH_r4, mH_r5, mH_r6, mH_r8, mH_r9, mH_r10, mH_r11, mH_r12, mH_r14, mH_i0, mH_i2, mH_i7, mH_i13, mH_i15, mH_t71, mH_t, mH_lr, mH_l65, mH_l69, mH_l70, mH_l71, mH_l72, mH_l73, mH_l74, mH_l75, mH_c, r0, r1]); first | omega | exact bo_i _ | (have q9 := (gdrop_sz (A := D) (i := o.tdiv 10)).2; omega) | (have q9 := (sz_gall 12 hz).2.2; omega) | (have q9 := glt_b D; unfold glv; split <;> omega)) rfl ?_
          try simp (disch := omega) only [mH_t64, mH_r1, mH_r3, mH_r4, mH_r5, mH_r6, mH_r8, mH_r9, mH_r10, mH_r11, mH_r12, mH_r14, mH_i0, mH_i2, mH_i7, mH_i13, mH_i15, mH_t71, mH_t, mH_lr, mH_l65, mH_l69, mH_l70, mH_l71, mH_l72, mH_l73, mH_l74, mH_l75, mH_c, r0, r1]
          refine e_step (pc' := 86) hK rfl rfl rfl ?_
          refine e_iald (pc' := 87) hK rfl (by simp (disch := omega) only [mH_t64, mH_r1, mH_r3, mH_r4, mH_r5, mH_r6, mH_r8, mH_r9, mH_r10, mH_r11, mH_r12, mH_r14, mH_i0, mH_i2, mH_i7, mH_i13, mH_i15, mH_t71, mH_t, mH_lr, mH_l65, mH_l69, mH_l70, mH_l71, mH_l72, mH_l73, mH_l74, mH_l75, mH_c, r0, r1]) (by first | omega | exact bo_i _ | (have q9 := (gdrop_sz (A := D) (i := o.tdiv 10)).2; omega) | (have q9 := (sz_gall 12 hz).2.2; omega) | (have q9 := glt_b D; unfold glv; split <;> omega)) (by (try simp (disch := omega) only [mH_t64, mH_r1, mH_r3, mH_r4, mH_r5, mH_r6, mH_r8, mH_r9, mH_r10, mH_r11, mH_r12, mH_r14, mH_i0, mH_i2, mH_i7, mH_i13, mH_i15, mH_t71, mH_t, mH_lr, mH_l65, mH_l69, mH_l70, mH_l71, mH_l72, mH_l73, mH_l74, mH_l75, mH_c, r0, r1]); first | omega | exact bo_i _ | (have q9 := (gdrop_sz (A := D) (i := o.tdiv 10)).2; omega) | (have q9 := (sz_gall 12 hz).2.2; omega) | (have q9 := glt_b D; unfold glv; split <;> omega)) rfl ?_
          try simp (disch := omega) only [mH_t64, mH_r1, mH_r3, mH_r4, mH_r5, mH_r6, mH_r8, mH_r9, mH_r10, mH_r11, mH_r12, mH_r14, mH_i0, mH_i2, mH_i7, mH_i13, mH_i15, mH_t71, mH_t, mH_lr, mH_l65, mH_l69, mH_l70, mH_l71, mH_l72, mH_l73, mH_l74, mH_l75, mH_c, r0, r1]
          refine e_step (pc' := 89) hK rfl rfl rfl ?_
          refine e_icmp (t := 109) (pc' := 92) hK rfl (by first | omega | exact bo_i _ | (have q9 := (gdrop_sz (A := D) (i := o.tdiv 10)).2; omega) | (have q9 := (sz_gall 12 hz).2.2; omega) | (have q9 := glt_b D; unfold glv; split <;> omega)) (by first | omega | exact bo_i _ | (have q9 := (gdrop_sz (A := D) (i := o.tdiv 10)).2; omega) | (have q9 := (sz_gall 12 hz).2.2; omega) | (have q9 := glt_b D; unfold glv; split <;> omega)) (by decide) rfl (fun hb89 => ?_) (fun hb89 => ?_)
          · replace hb89 := cq_ge.1.mp hb89
            try simp only [bo_0, Bool.not_eq_false] at hb89
            refine e_step (pc' := 110) hK rfl rfl rfl ?_
            refine e_ret hK rfl rfl (by first | rfl | (simp only [mv_ret]; rw [if_pos]; exact Or.inr ⟨rfl, by omega⟩) | (simp only [mv_ret]; rw [if_pos]; exact Or.inr ⟨rfl, by unfold mv_bo; split <;> first | exact Or.inl rfl | exact Or.inr rfl⟩)) ?_
            have eg : (gcm D k o).1 = false := by { unfold gcm; rw [if_pos (by omega)]; rw [if_pos hb66]; exact (gag_m hz).2.1 (by omega) (by omega) (by omega) }
            exact ⟨by rw [eg]; rfl, rfl, v, rfl, fun b _ _ _ _ _ => rfl, fun q => by { rw [eg] at q; cases q }⟩
          · replace hb89 := cq_ge.2.mp hb89
            try simp only [bo_0, Bool.not_eq_false] at hb89
            refine e_step (pc' := 93) hK rfl rfl rfl ?_
            refine e_step (pc' := 94) hK rfl rfl rfl ?_
            refine e_getR (ci := 4) (k := 4) (pc' := 97) hK rfl (by simp (disch := omega) only [mH_t64, mH_r1, mH_r3, mH_r4, mH_r5, mH_r6, mH_r8, mH_r9, mH_r10, mH_r11, mH_r12, mH_r14, mH_i0, mH_i2, mH_i7, mH_i13, mH_i15, mH_t71, mH_t, mH_lr, mH_l65, mH_l69, mH_l70, mH_l71, mH_l72, mH_l73, mH_l74, mH_l75, mH_c, r0, r1]) rfl rfl (by decide) (by decide) (by (try simp (disch := omega) only [mH_t64, mH_r1, mH_r3, mH_r4, mH_r5, mH_r6, mH_r8, mH_r9, mH_r10, mH_r11, mH_r12, mH_r14, mH_i0, mH_i2, mH_i7, mH_i13, mH_i15, mH_t71, mH_t, mH_lr, mH_l65, mH_l69, mH_l70, mH_l71, mH_l72, mH_l73, mH_l74, mH_l75, mH_c, r0, r1]); first | omega | exact bo_i _ | (have q9 := (gdrop_sz (A := D) (i := o.tdiv 10)).2; omega) | (have q9 := (sz_gall 12 hz).2.2; omega) | (have q9 := glt_b D; unfold glv; split <;> omega)) rfl ?_
            try simp (disch := omega) only [mH_t64, mH_r1, mH_r3, mH_r4, mH_r5, mH_r6, mH_r8, mH_r9, mH_r10, mH_r11, mH_r12, mH_r14, mH_i0, mH_i2, mH_i7, mH_i13, mH_i15, mH_t71, mH_t, mH_lr, mH_l65, mH_l69, mH_l70, mH_l71, mH_l72, mH_l73, mH_l74, mH_l75, mH_c, r0, r1]
            refine e_step (pc' := 99) hK rfl rfl rfl ?_
            refine e_cQV3 (z := 155) hK rfl rfl (by first | (simp (disch := omega) only [mH_t64, mH_r1, mH_r3, mH_r4, mH_r5, mH_r6, mH_r8, mH_r9, mH_r10, mH_r11, mH_r12, mH_r14, mH_i0, mH_i2, mH_i7, mH_i13, mH_i15, mH_t71, mH_t, mH_lr, mH_l65, mH_l69, mH_l70, mH_l71, mH_l72, mH_l73, mH_l74, mH_l75, mH_c, r0, r1]; rfl) | (show _ = 2; assumption) | (show _ = 1; assumption) | (show _ = 0; assumption) | (show _ = 3; assumption) | (show _ = 4; assumption)) rfl (Nat.le_of_ble_eq_true rfl) (Nat.le_of_ble_eq_true rfl) (m_againOn 267 (by omega) hR hI (o.tdiv 10) (by omega) (by omega) (by omega) bT) ?_
            rintro _ _ _ ⟨rfl, rfl, u, rfl, hu, ru⟩
            refine ⟨by show (0 : Nat) ≠ 4; decide, ?_⟩
            rw [if_neg (by show ¬ (0 : Nat) = 3; decide)]
            try dsimp only
            show mv_Ev _ _ 102 _ _ _ _ _
            refine e_if (t := 109) (pc' := 105) hK rfl (by first | omega | exact bo_i _ | (have q9 := (gdrop_sz (A := D) (i := o.tdiv 10)).2; omega) | (have q9 := (sz_gall 12 hz).2.2; omega) | (have q9 := glt_b D; unfold glv; split <;> omega)) (by decide) rfl (fun hb102 => ?_) (fun hb102 => ?_)
            · replace hb102 := cq_lt.1.mp hb102
              try simp only [bo_0, Bool.not_eq_false] at hb102
              exfalso; first | omega | exact absurd trivial (by assumption) | (first | omega | exact bo_i _ | (have q9 := (gdrop_sz (A := D) (i := o.tdiv 10)).2; omega) | (have q9 := (sz_gall 12 hz).2.2; omega) | (have q9 := glt_b D; unfold glv; split <;> omega))
            · replace hb102 := cq_lt.2.mp hb102
              try simp only [bo_0, Bool.not_eq_false] at hb102
              refine e_step (pc' := 106) hK rfl rfl rfl ?_
              refine e_goto (t := 110) hK rfl (by decide) ?_
              refine e_ret hK rfl rfl (by first | rfl | (simp only [mv_ret]; rw [if_pos]; exact Or.inr ⟨rfl, by omega⟩) | (simp only [mv_ret]; rw [if_pos]; exact Or.inr ⟨rfl, by unfold mv_bo; split <;> first | exact Or.inl rfl | exact Or.inr rfl⟩)) ?_
              have eg : gcm D k o = (true, gpu D (gL D (o.tdiv 10)) (gnw D (gL D (o.tdiv 10)))) := by { unfold gcm; rw [if_pos (by omega)]; rw [if_pos hb66]; exact ((gag_m hz).2.2 (by omega) (by omega) (by omega)).1 }
              exact ⟨by rw [eg]; rfl, rfl, u, rfl, fun b n1 n2 n3 n4 n5 => hu b n3 n4 n5 n1, fun _ => by { rw [eg]; exact ru }⟩
    · skip
      rcases j with _ | j
      · show mv_Ev _ _ 111 _ _ _ _ _
        refine e_step (pc' := 113) hK rfl rfl rfl ?_
        refine e_if (t := 144) (pc' := 116) hK rfl (by first | omega | exact bo_i _ | (have q9 := (gdrop_sz (A := D) (i := o.tdiv 10)).2; omega) | (have q9 := (sz_gall 12 hz).2.2; omega) | (have q9 := glt_b D; unfold glv; split <;> omega)) (by decide) rfl (fun hb113 => ?_) (fun hb113 => ?_)
        · replace hb113 := cq_ne.1.mp hb113
          try simp only [bo_0, Bool.not_eq_false] at hb113
          refine e_step (pc' := 145) hK rfl rfl rfl ?_
          refine e_ret hK rfl rfl (by first | rfl | (simp only [mv_ret]; rw [if_pos]; exact Or.inr ⟨rfl, by omega⟩) | (simp only [mv_ret]; rw [if_pos]; exact Or.inr ⟨rfl, by unfold mv_bo; split <;> first | exact Or.inl rfl | exact Or.inr rfl⟩)) ?_
          have eg : (gcm D k o).1 = false := by { unfold gcm; rw [if_neg (by omega)]; rw [if_pos (by omega)]; rw [if_neg hb113] }
          exact ⟨by rw [eg]; rfl, rfl, v, rfl, fun b _ _ _ _ _ => rfl, fun q => by { rw [eg] at q; cases q }⟩
        · replace hb113 := cq_ne.2.mp hb113
          try simp only [bo_0, Bool.not_eq_false] at hb113
          refine e_step (pc' := 117) hK rfl rfl rfl ?_
          refine e_getR (ci := 4) (k := 4) (pc' := 120) hK rfl (by simp (disch := omega) only [mH_t64, mH_r1, mH_r3, mH_r4, mH_r5, mH_r6, mH_r8, mH_r9, mH_r10, mH_r11, mH_r12, mH_r14, mH_i0, mH_i2, mH_i7, mH_i13, mH_i15, mH_t71, mH_t, mH_lr, mH_l65, mH_l69, mH_l70, mH_l71, mH_l72, mH_l73, mH_l74, mH_l75, mH_c, r0, r1]) rfl rfl (by decide) (by decide) (by (try simp (disch := omega) only [mH_t64, mH_r1, mH_r3, mH_r4, mH_r5, mH_r6, mH_r8, mH_r9, mH_r10, mH_r11, mH_r12, mH_r14, mH_i0, mH_i2, mH_i7, mH_i13, mH_i15, mH_t71, mH_t, mH_lr, mH_l65, mH_l69, mH_l70, mH_l71, mH_l72, mH_l73, mH_l74, mH_l75, mH_c, r0, r1]); first | omega | exact bo_i _ | (have q9 := (gdrop_sz (A := D) (i := o.tdiv 10)).2; omega) | (have q9 := (sz_gall 12 hz).2.2; omega) | (have q9 := glt_b D; unfold glv; split <;> omega)) rfl ?_
          try simp (disch := omega) only [mH_t64, mH_r1, mH_r3, mH_r4, mH_r5, mH_r6, mH_r8, mH_r9, mH_r10, mH_r11, mH_r12, mH_r14, mH_i0, mH_i2, mH_i7, mH_i13, mH_i15, mH_t71, mH_t, mH_lr, mH_l65, mH_l69, mH_l70, mH_l71, mH_l72, mH_l73, mH_l74, mH_l75, mH_c, r0, r1]
          refine e_step (pc' := 122) hK rfl rfl rfl ?_
          refine e_cRS2 (z := 134) (pc' := 125) hK rfl rfl rfl (Nat.le_of_ble_eq_true rfl) (Nat.le_of_ble_eq_true rfl) (m_isLine 267 (by omega) (o.tdiv 10) (by omega) (by rw [r0]; omega)) (by decide) rfl ?_
          try simp (disch := omega) only [mH_t64, mH_r1, mH_r3, mH_r4, mH_r5, mH_r6, mH_r8, mH_r9, mH_r10, mH_r11, mH_r12, mH_r14, mH_i0, mH_i2, mH_i7, mH_i13, mH_i15, mH_t71, mH_t, mH_lr, mH_l65, mH_l69, mH_l70, mH_l71, mH_l72, mH_l73, mH_l74, mH_l75, mH_c, r0, r1]
          refine e_if (t := 144) (pc' := 128) hK rfl (by first | omega | exact bo_i _ | (have q9 := (gdrop_sz (A := D) (i := o.tdiv 10)).2; omega) | (have q9 := (sz_gall 12 hz).2.2; omega) | (have q9 := glt_b D; unfold glv; split <;> omega)) (by decide) rfl (fun hb125 => ?_) (fun hb125 => ?_)
          · replace hb125 := cq_eq.1.mp hb125
            try simp only [bo_0, Bool.not_eq_false] at hb125
            refine e_step (pc' := 145) hK rfl rfl rfl ?_
            refine e_ret hK rfl rfl (by first | rfl | (simp only [mv_ret]; rw [if_pos]; exact Or.inr ⟨rfl, by omega⟩) | (simp only [mv_ret]; rw [if_pos]; exact Or.inr ⟨rfl, by unfold mv_bo; split <;> first | exact Or.inl rfl | exact Or.inr rfl⟩)) ?_
            simp only [Bool.and_eq_false_iff, decide_eq_false_iff_not] at hb125
            have eg : (gcm D k o).1 = false := by { unfold gcm; rw [if_neg (by omega)]; rw [if_pos (by omega)]; rw [if_pos hb113]; unfold grm; rw [if_neg (by omega)] }
            exact ⟨by rw [eg]; rfl, rfl, v, rfl, fun b _ _ _ _ _ => rfl, fun q => by { rw [eg] at q; cases q }⟩
          · replace hb125 := cq_eq.2.mp hb125
            try simp only [bo_0, Bool.not_eq_false] at hb125
            simp only [Bool.and_eq_true, decide_eq_true_eq] at hb125
            refine e_step (pc' := 129) hK rfl rfl rfl ?_
            refine e_getR (ci := 4) (k := 4) (pc' := 132) hK rfl (by simp (disch := omega) only [mH_t64, mH_r1, mH_r3, mH_r4, mH_r5, mH_r6, mH_r8, mH_r9, mH_r10, mH_r11, mH_r12, mH_r14, mH_i0, mH_i2, mH_i7, mH_i13, mH_i15, mH_t71, mH_t, mH_lr, mH_l65, mH_l69, mH_l70, mH_l71, mH_l72, mH_l73, mH_l74, mH_l75, mH_c, r0, r1]) rfl rfl (by decide) (by decide) (by (try simp (disch := omega) only [mH_t64, mH_r1, mH_r3, mH_r4, mH_r5, mH_r6, mH_r8, mH_r9, mH_r10, mH_r11, mH_r12, mH_r14, mH_i0, mH_i2, mH_i7, mH_i13, mH_i15, mH_t71, mH_t, mH_lr, mH_l65, mH_l69, mH_l70, mH_l71, mH_l72, mH_l73, mH_l74, mH_l75, mH_c, r0, r1]); first | omega | exact bo_i _ | (have q9 := (gdrop_sz (A := D) (i := o.tdiv 10)).2; omega) | (have q9 := (sz_gall 12 hz).2.2; omega) | (have q9 := glt_b D; unfold glv; split <;> omega)) rfl ?_
            try simp (disch := omega) only [mH_t64, mH_r1, mH_r3, mH_r4, mH_r5, mH_r6, mH_r8, mH_r9, mH_r10, mH_r11, mH_r12, mH_r14, mH_i0, mH_i2, mH_i7, mH_i13, mH_i15, mH_t71, mH_t, mH_lr, mH_l65, mH_l69, mH_l70, mH_l71, mH_l72, mH_l73, mH_l74, mH_l75, mH_c, r0, r1]
            refine e_step (pc' := 134) hK rfl rfl rfl ?_
            refine e_cQS2 (z := 158) hK rfl rfl rfl (Nat.le_of_ble_eq_true rfl) (Nat.le_of_ble_eq_true rfl) (m_removeOn 267 (by omega) hR hI (o.tdiv 10) (by omega) (by omega)) ?_
            rintro _ _ _ ⟨rfl, rfl, u, rfl, hu, ru⟩
            refine ⟨by show (0 : Nat) ≠ 4; decide, ?_⟩
            rw [if_neg (by show ¬ (0 : Nat) = 3; decide)]
            try dsimp only
            show mv_Ev _ _ 137 _ _ _ _ _
            refine e_if (t := 144) (pc' := 140) hK rfl (by first | omega | exact bo_i _ | (have q9 := (gdrop_sz (A := D) (i := o.tdiv 10)).2; omega) | (have q9 := (sz_gall 12 hz).2.2; omega) | (have q9 := glt_b D; unfold glv; split <;> omega)) (by decide) rfl (fun hb137 => ?_) (fun hb137 => ?_)
            · replace hb137 := cq_lt.1.mp hb137
              try simp only [bo_0, Bool.not_eq_false] at hb137
              exfalso; first | omega | exact absurd trivial (by assumption) | (first | omega | exact bo_i _ | (have q9 := (gdrop_sz (A := D) (i := o.tdiv 10)).2; omega) | (have q9 := (sz_gall 12 hz).2.2; omega) | (have q9 := glt_b D; unfold glv; split <;> omega))
            · replace hb137 := cq_lt.2.mp hb137
              try simp only [bo_0, Bool.not_eq_false] at hb137
              refine e_step (pc' := 141) hK rfl rfl rfl ?_
              refine e_goto (t := 145) hK rfl (by decide) ?_
              refine e_ret hK rfl rfl (by first | rfl | (simp only [mv_ret]; rw [if_pos]; exact Or.inr ⟨rfl, by omega⟩) | (simp only [mv_ret]; rw [if_pos]; exact Or.inr ⟨rfl, by unfold mv_bo; split <;> first | exact Or.inl rfl | exact Or.inr rfl⟩)) ?_
              have eg : gcm D k o = (true, gdrop D (o.tdiv 10)) := by { unfold gcm; rw [if_neg (by omega)]; rw [if_pos (by omega)]; rw [if_pos hb113]; exact if_pos (by omega) }
              exact ⟨by rw [eg]; rfl, rfl, u, rfl, fun b n1 n2 n3 n4 n5 => hu b n1, fun _ => by { rw [eg]; exact ru }⟩
      · skip
        rcases j with _ | j
        · show mv_Ev _ _ 146 _ _ _ _ _
          refine e_step (pc' := 147) hK rfl rfl rfl ?_
          refine e_if (t := 168) (pc' := 150) hK rfl (by first | omega | exact bo_i _ | (have q9 := (gdrop_sz (A := D) (i := o.tdiv 10)).2; omega) | (have q9 := (sz_gall 12 hz).2.2; omega) | (have q9 := glt_b D; unfold glv; split <;> omega)) (by decide) rfl (fun hb147 => ?_) (fun hb147 => ?_)
          · replace hb147 := cq_ne.1.mp hb147
            try simp only [bo_0, Bool.not_eq_false] at hb147
            refine e_step (pc' := 169) hK rfl rfl rfl ?_
            refine e_ret hK rfl rfl (by first | rfl | (simp only [mv_ret]; rw [if_pos]; exact Or.inr ⟨rfl, by omega⟩) | (simp only [mv_ret]; rw [if_pos]; exact Or.inr ⟨rfl, by unfold mv_bo; split <;> first | exact Or.inl rfl | exact Or.inr rfl⟩)) ?_
            have eg : (gcm D k o).1 = false := by { unfold gcm; rw [if_neg (by omega)]; rw [if_neg (by omega)]; rw [if_pos (by omega)]; rw [if_neg hb147] }
            exact ⟨by rw [eg]; rfl, rfl, v, rfl, fun b _ _ _ _ _ => rfl, fun q => by { rw [eg] at q; cases q }⟩
          · replace hb147 := cq_ne.2.mp hb147
            try simp only [bo_0, Bool.not_eq_false] at hb147
            refine e_step (pc' := 151) hK rfl rfl rfl ?_
            refine e_step (pc' := 152) hK rfl rfl rfl ?_
            refine e_getR (ci := 4) (k := 4) (pc' := 155) hK rfl (by simp (disch := omega) only [mH_t64, mH_r1, mH_r3, mH_r4, mH_r5, mH_r6, mH_r8, mH_r9, mH_r10, mH_r11, mH_r12, mH_r14, mH_i0, mH_i2, mH_i7, mH_i13, mH_i15, mH_t71, mH_t, mH_lr, mH_l65, mH_l69, mH_l70, mH_l71, mH_l72, mH_l73, mH_l74, mH_l75, mH_c, r0, r1]) rfl rfl (by decide) (by decide) (by (try simp (disch := omega) only [mH_t64, mH_r1, mH_r3, mH_r4, mH_r5, mH_r6, mH_r8, mH_r9, mH_r10, mH_r11, mH_r12, mH_r14, mH_i0, mH_i2, mH_i7, mH_i13, mH_i15, mH_t71, mH_t, mH_lr, mH_l65, mH_l69, mH_l70, mH_l71, mH_l72, mH_l73, mH_l74, mH_l75, mH_c, r0, r1]); first | omega | exact bo_i _ | (have q9 := (gdrop_sz (A := D) (i := o.tdiv 10)).2; omega) | (have q9 := (sz_gall 12 hz).2.2; omega) | (have q9 := glt_b D; unfold glv; split <;> omega)) rfl ?_
            try simp (disch := omega) only [mH_t64, mH_r1, mH_r3, mH_r4, mH_r5, mH_r6, mH_r8, mH_r9, mH_r10, mH_r11, mH_r12, mH_r14, mH_i0, mH_i2, mH_i7, mH_i13, mH_i15, mH_t71, mH_t, mH_lr, mH_l65, mH_l69, mH_l70, mH_l71, mH_l72, mH_l73, mH_l74, mH_l75, mH_c, r0, r1]
            refine e_cQV2 (z := 161) hK rfl rfl (by first | (simp (disch := omega) only [mH_t64, mH_r1, mH_r3, mH_r4, mH_r5, mH_r6, mH_r8, mH_r9, mH_r10, mH_r11, mH_r12, mH_r14, mH_i0, mH_i2, mH_i7, mH_i13, mH_i15, mH_t71, mH_t, mH_lr, mH_l65, mH_l69, mH_l70, mH_l71, mH_l72, mH_l73, mH_l74, mH_l75, mH_c, r0, r1]; rfl) | (show _ = 2; assumption) | (show _ = 1; assumption) | (show _ = 0; assumption) | (show _ = 3; assumption) | (show _ = 4; assumption)) rfl (Nat.le_of_ble_eq_true rfl) (Nat.le_of_ble_eq_true rfl) (m_learnOn 267 (by omega) hR hI) ?_
            rintro _ _ _ ⟨rfl, rfl, u, rfl, hu, ru⟩
            refine ⟨by show (0 : Nat) ≠ 4; decide, ?_⟩
            rw [if_neg (by show ¬ (0 : Nat) = 3; decide)]
            try dsimp only
            show mv_Ev _ _ 158 _ _ _ _ _
            refine e_step (pc' := 161) hK rfl rfl rfl ?_
            refine e_icmp (t := 168) (pc' := 164) hK rfl (by first | omega | exact bo_i _ | (have q9 := (gdrop_sz (A := D) (i := o.tdiv 10)).2; omega) | (have q9 := (sz_gall 12 hz).2.2; omega) | (have q9 := glt_b D; unfold glv; split <;> omega)) (by first | omega | exact bo_i _ | (have q9 := (gdrop_sz (A := D) (i := o.tdiv 10)).2; omega) | (have q9 := (sz_gall 12 hz).2.2; omega) | (have q9 := glt_b D; unfold glv; split <;> omega)) (by decide) rfl (fun hb161 => ?_) (fun hb161 => ?_)
            · replace hb161 := cq_eq.1.mp hb161
              try simp only [bo_0, Bool.not_eq_false] at hb161
              refine e_step (pc' := 169) hK rfl rfl rfl ?_
              refine e_ret hK rfl rfl (by first | rfl | (simp only [mv_ret]; rw [if_pos]; exact Or.inr ⟨rfl, by omega⟩) | (simp only [mv_ret]; rw [if_pos]; exact Or.inr ⟨rfl, by unfold mv_bo; split <;> first | exact Or.inl rfl | exact Or.inr rfl⟩)) ?_
              have eg : (gcm D k o).1 = false := by { unfold gcm; rw [if_neg (by omega)]; rw [if_neg (by omega)]; rw [if_pos (by omega)]; rw [if_pos hb147]; exact decide_eq_false (fun q => q hb161) }
              exact ⟨by rw [eg]; rfl, rfl, u, rfl, fun b n1 n2 n3 n4 n5 => hu b n3 n4 n5 n1, fun q => by { rw [eg] at q; cases q }⟩
            · replace hb161 := cq_eq.2.mp hb161
              try simp only [bo_0, Bool.not_eq_false] at hb161
              refine e_step (pc' := 165) hK rfl rfl rfl ?_
              refine e_goto (t := 169) hK rfl (by decide) ?_
              refine e_ret hK rfl rfl (by first | rfl | (simp only [mv_ret]; rw [if_pos]; exact Or.inr ⟨rfl, by omega⟩) | (simp only [mv_ret]; rw [if_pos]; exact Or.inr ⟨rfl, by unfold mv_bo; split <;> first | exact Or.inl rfl | exact Or.inr rfl⟩)) ?_
              have eg : gcm D k o = (true, gle D) := by { unfold gcm; rw [if_neg (by omega)]; rw [if_neg (by omega)]; rw [if_pos (by omega)]; rw [if_pos hb147, decide_eq_true hb161] }
              exact ⟨by rw [eg]; rfl, rfl, u, rfl, fun b n1 n2 n3 n4 n5 => hu b n3 n4 n5 n1, fun _ => by { rw [eg]; exact ru }⟩
        · skip
          rcases j with _ | j
          · show mv_Ev _ _ 170 _ _ _ _ _
            refine e_step (pc' := 171) hK rfl rfl rfl ?_
            refine e_if (t := 189) (pc' := 174) hK rfl (by first | omega | exact bo_i _ | (have q9 := (gdrop_sz (A := D) (i := o.tdiv 10)).2; omega) | (have q9 := (sz_gall 12 hz).2.2; omega) | (have q9 := glt_b D; unfold glv; split <;> omega)) (by decide) rfl (fun hb171 => ?_) (fun hb171 => ?_)
            · replace hb171 := cq_ne.1.mp hb171
              try simp only [bo_0, Bool.not_eq_false] at hb171
              refine e_step (pc' := 190) hK rfl rfl rfl ?_
              refine e_ret hK rfl rfl (by first | rfl | (simp only [mv_ret]; rw [if_pos]; exact Or.inr ⟨rfl, by omega⟩) | (simp only [mv_ret]; rw [if_pos]; exact Or.inr ⟨rfl, by unfold mv_bo; split <;> first | exact Or.inl rfl | exact Or.inr rfl⟩)) ?_
              have eg : (gcm D k o).1 = false := by { unfold gcm; rw [if_neg (by omega)]; rw [if_neg (by omega)]; rw [if_neg (by omega)]; rw [if_pos (by omega)]; rw [if_neg hb171] }
              exact ⟨by rw [eg]; rfl, rfl, v, rfl, fun b _ _ _ _ _ => rfl, fun q => by { rw [eg] at q; cases q }⟩
            · replace hb171 := cq_ne.2.mp hb171
              try simp only [bo_0, Bool.not_eq_false] at hb171
              refine e_step (pc' := 175) hK rfl rfl rfl ?_
              refine e_step (pc' := 176) hK rfl rfl rfl ?_
              refine e_getR (ci := 4) (k := 4) (pc' := 179) hK rfl (by simp (disch := omega) only [mH_t64, mH_r1, mH_r3, mH_r4, mH_r5, mH_r6, mH_r8, mH_r9, mH_r10, mH_r11, mH_r12, mH_r14, mH_i0, mH_i2, mH_i7, mH_i13, mH_i15, mH_t71, mH_t, mH_lr, mH_l65, mH_l69, mH_l70, mH_l71, mH_l72, mH_l73, mH_l74, mH_l75, mH_c, r0, r1]) rfl rfl (by decide) (by decide) (by (try simp (disch := omega) only [mH_t64, mH_r1, mH_r3, mH_r4, mH_r5, mH_r6, mH_r8, mH_r9, mH_r10, mH_r11, mH_r12, mH_r14, mH_i0, mH_i2, mH_i7, mH_i13, mH_i15, mH_t71, mH_t, mH_lr, mH_l65, mH_l69, mH_l70, mH_l71, mH_l72, mH_l73, mH_l74, mH_l75, mH_c, r0, r1]); first | omega | exact bo_i _ | (have q9 := (gdrop_sz (A := D) (i := o.tdiv 10)).2; omega) | (have q9 := (sz_gall 12 hz).2.2; omega) | (have q9 := glt_b D; unfold glv; split <;> omega)) rfl ?_
              try simp (disch := omega) only [mH_t64, mH_r1, mH_r3, mH_r4, mH_r5, mH_r6, mH_r8, mH_r9, mH_r10, mH_r11, mH_r12, mH_r14, mH_i0, mH_i2, mH_i7, mH_i13, mH_i15, mH_t71, mH_t, mH_lr, mH_l65, mH_l69, mH_l70, mH_l71, mH_l72, mH_l73, mH_l74, mH_l75, mH_c, r0, r1]
              refine e_cQV2 (z := 164) hK rfl rfl (by first | (simp (disch := omega) only [mH_t64, mH_r1, mH_r3, mH_r4, mH_r5, mH_r6, mH_r8, mH_r9, mH_r10, mH_r11, mH_r12, mH_r14, mH_i0, mH_i2, mH_i7, mH_i13, mH_i15, mH_t71, mH_t, mH_lr, mH_l65, mH_l69, mH_l70, mH_l71, mH_l72, mH_l73, mH_l74, mH_l75, mH_c, r0, r1]; rfl) | (show _ = 2; assumption) | (show _ = 1; assumption) | (show _ = 0; assumption) | (show _ = 3; assumption) | (show _ = 4; assumption)) rfl (Nat.le_of_ble_eq_true rfl) (Nat.le_of_ble_eq_true rfl) (m_learnAll 267 (by omega) hR hI bT) ?_
              rintro _ _ _ ⟨rfl, rfl, u, rfl, hu, ru⟩
              refine ⟨by show (0 : Nat) ≠ 4; decide, ?_⟩
              rw [if_neg (by show ¬ (0 : Nat) = 3; decide)]
              try dsimp only
              show mv_Ev _ _ 182 _ _ _ _ _
              refine e_if (t := 189) (pc' := 185) hK rfl (by first | omega | exact bo_i _ | (have q9 := (gdrop_sz (A := D) (i := o.tdiv 10)).2; omega) | (have q9 := (sz_gall 12 hz).2.2; omega) | (have q9 := glt_b D; unfold glv; split <;> omega)) (by decide) rfl (fun hb182 => ?_) (fun hb182 => ?_)
              · replace hb182 := cq_lt.1.mp hb182
                try simp only [bo_0, Bool.not_eq_false] at hb182
                exfalso; first | omega | exact absurd trivial (by assumption) | (first | omega | exact bo_i _ | (have q9 := (gdrop_sz (A := D) (i := o.tdiv 10)).2; omega) | (have q9 := (sz_gall 12 hz).2.2; omega) | (have q9 := glt_b D; unfold glv; split <;> omega))
              · replace hb182 := cq_lt.2.mp hb182
                try simp only [bo_0, Bool.not_eq_false] at hb182
                refine e_step (pc' := 186) hK rfl rfl rfl ?_
                refine e_goto (t := 190) hK rfl (by decide) ?_
                refine e_ret hK rfl rfl (by first | rfl | (simp only [mv_ret]; rw [if_pos]; exact Or.inr ⟨rfl, by omega⟩) | (simp only [mv_ret]; rw [if_pos]; exact Or.inr ⟨rfl, by unfold mv_bo; split <;> first | exact Or.inl rfl | exact Or.inr rfl⟩)) ?_
                have eg : gcm D k o = (true, gall D 12) := by { unfold gcm; rw [if_neg (by omega)]; rw [if_neg (by omega)]; rw [if_neg (by omega)]; rw [if_pos (by omega)]; rw [if_pos hb171] }
                exact ⟨by rw [eg]; rfl, rfl, u, rfl, fun b n1 n2 n3 n4 n5 => hu b n3 n4 n5 n1, fun _ => by { rw [eg]; exact ru }⟩
          · skip
            rcases j with _ | j
            · show mv_Ev _ _ 191 _ _ _ _ _
              refine e_step (pc' := 193) hK rfl rfl rfl ?_
              refine e_if (t := 228) (pc' := 196) hK rfl (by first | omega | exact bo_i _ | (have q9 := (gdrop_sz (A := D) (i := o.tdiv 10)).2; omega) | (have q9 := (sz_gall 12 hz).2.2; omega) | (have q9 := glt_b D; unfold glv; split <;> omega)) (by decide) rfl (fun hb193 => ?_) (fun hb193 => ?_)
              · replace hb193 := cq_gt.1.mp hb193
                try simp only [bo_0, Bool.not_eq_false] at hb193
                refine e_step (pc' := 229) hK rfl rfl rfl ?_
                refine e_ret hK rfl rfl (by first | rfl | (simp only [mv_ret]; rw [if_pos]; exact Or.inr ⟨rfl, by omega⟩) | (simp only [mv_ret]; rw [if_pos]; exact Or.inr ⟨rfl, by unfold mv_bo; split <;> first | exact Or.inl rfl | exact Or.inr rfl⟩)) ?_
                have eg : (gcm D k o).1 = false := by { unfold gcm; rw [if_neg (by omega)]; rw [if_neg (by omega)]; rw [if_neg (by omega)]; rw [if_neg (by omega)]; rw [if_pos (by omega)]; rw [if_neg (by omega)] }
                exact ⟨by rw [eg]; rfl, rfl, v, rfl, fun b _ _ _ _ _ => rfl, fun q => by { rw [eg] at q; cases q }⟩
              · replace hb193 := cq_gt.2.mp hb193
                try simp only [bo_0, Bool.not_eq_false] at hb193
                refine e_step (pc' := 197) hK rfl rfl rfl ?_
                refine e_getR (ci := 4) (k := 4) (pc' := 200) hK rfl (by simp (disch := omega) only [mH_t64, mH_r1, mH_r3, mH_r4, mH_r5, mH_r6, mH_r8, mH_r9, mH_r10, mH_r11, mH_r12, mH_r14, mH_i0, mH_i2, mH_i7, mH_i13, mH_i15, mH_t71, mH_t, mH_lr, mH_l65, mH_l69, mH_l70, mH_l71, mH_l72, mH_l73, mH_l74, mH_l75, mH_c, r0, r1]) rfl rfl (by decide) (by decide) (by (try simp (disch := omega) only [mH_t64, mH_r1, mH_r3, mH_r4, mH_r5, mH_r6, mH_r8, mH_r9, mH_r10, mH_r11, mH_r12, mH_r14, mH_i0, mH_i2, mH_i7, mH_i13, mH_i15, mH_t71, mH_t, mH_lr, mH_l65, mH_l69, mH_l70, mH_l71, mH_l72, mH_l73, mH_l74, mH_l75, mH_c, r0, r1]); first | omega | exact bo_i _ | (have q9 := (gdrop_sz (A := D) (i := o.tdiv 10)).2; omega) | (have q9 := (sz_gall 12 hz).2.2; omega) | (have q9 := glt_b D; unfold glv; split <;> omega)) rfl ?_
                try simp (disch := omega) only [mH_t64, mH_r1, mH_r3, mH_r4, mH_r5, mH_r6, mH_r8, mH_r9, mH_r10, mH_r11, mH_r12, mH_r14, mH_i0, mH_i2, mH_i7, mH_i13, mH_i15, mH_t71, mH_t, mH_lr, mH_l65, mH_l69, mH_l70, mH_l71, mH_l72, mH_l73, mH_l74, mH_l75, mH_c, r0, r1]
                refine e_step (pc' := 201) hK rfl rfl rfl ?_
                refine e_step (pc' := 203) hK rfl rfl rfl ?_
                refine e_step (pc' := 205) hK rfl rfl rfl ?_
                refine e_irem (pc' := 206) hK rfl (by first | omega | exact bo_i _ | (have q9 := (gdrop_sz (A := D) (i := o.tdiv 10)).2; omega) | (have q9 := (sz_gall 12 hz).2.2; omega) | (have q9 := glt_b D; unfold glv; split <;> omega)) (by first | omega | exact bo_i _ | (have q9 := (gdrop_sz (A := D) (i := o.tdiv 10)).2; omega) | (have q9 := (sz_gall 12 hz).2.2; omega) | (have q9 := glt_b D; unfold glv; split <;> omega)) (by first | omega | exact bo_i _ | (have q9 := (gdrop_sz (A := D) (i := o.tdiv 10)).2; omega) | (have q9 := (sz_gall 12 hz).2.2; omega) | (have q9 := glt_b D; unfold glv; split <;> omega)) rfl ?_
                refine e_cRS3 (z := 141) (pc' := 209) hK rfl rfl rfl (Nat.le_of_ble_eq_true rfl) (Nat.le_of_ble_eq_true rfl) (m_isPiece 267 (by omega) hR hI ((o.tdiv 10).tdiv 10) ((o.tdiv 10).tmod 10) (by omega) (by omega)) (by decide) rfl ?_
                try simp (disch := omega) only [mH_t64, mH_r1, mH_r3, mH_r4, mH_r5, mH_r6, mH_r8, mH_r9, mH_r10, mH_r11, mH_r12, mH_r14, mH_i0, mH_i2, mH_i7, mH_i13, mH_i15, mH_t71, mH_t, mH_lr, mH_l65, mH_l69, mH_l70, mH_l71, mH_l72, mH_l73, mH_l74, mH_l75, mH_c, r0, r1]
                refine e_if (t := 228) (pc' := 212) hK rfl (by first | omega | exact bo_i _ | (have q9 := (gdrop_sz (A := D) (i := o.tdiv 10)).2; omega) | (have q9 := (sz_gall 12 hz).2.2; omega) | (have q9 := glt_b D; unfold glv; split <;> omega)) (by decide) rfl (fun hb209 => ?_) (fun hb209 => ?_)
                · replace hb209 := cq_eq.1.mp hb209
                  try simp only [bo_0, Bool.not_eq_false] at hb209
                  refine e_step (pc' := 229) hK rfl rfl rfl ?_
                  refine e_ret hK rfl rfl (by first | rfl | (simp only [mv_ret]; rw [if_pos]; exact Or.inr ⟨rfl, by omega⟩) | (simp only [mv_ret]; rw [if_pos]; exact Or.inr ⟨rfl, by unfold mv_bo; split <;> first | exact Or.inl rfl | exact Or.inr rfl⟩)) ?_
                  have hb209 := of_decide_eq_false hb209
                  have eg : (gcm D k o).1 = false := by { unfold gcm; rw [if_neg (by omega)]; rw [if_neg (by omega)]; rw [if_neg (by omega)]; rw [if_neg (by omega)]; rw [if_pos (by omega)]; rw [if_pos (by omega)]; exact (gop_m hz).1 hb209 }
                  exact ⟨by rw [eg]; rfl, rfl, v, rfl, fun b _ _ _ _ _ => rfl, fun q => by { rw [eg] at q; cases q }⟩
                · replace hb209 := cq_eq.2.mp hb209
                  try simp only [bo_0, Bool.not_eq_false] at hb209
                  have tb := of_decide_eq_true hb209
                  have xb := xn_b (gSok hI tb.1 tb.2.1)
                  have rk := (hR.2.2.2 _ tb.1 tb.2.1).2 _ tb.2.2.1 (by rw [← gs_S tb.1 tb.2.1]; exact tb.2.2.2)
                  have kb := gk_i hI tb.1 tb.2.1 tb.2.2.1 tb.2.2.2
                  refine e_step (pc' := 213) hK rfl rfl rfl ?_
                  refine e_getR (ci := 4) (k := 4) (pc' := 216) hK rfl (by simp (disch := omega) only [mH_t64, mH_r1, mH_r3, mH_r4, mH_r5, mH_r6, mH_r8, mH_r9, mH_r10, mH_r11, mH_r12, mH_r14, mH_i0, mH_i2, mH_i7, mH_i13, mH_i15, mH_t71, mH_t, mH_lr, mH_l65, mH_l69, mH_l70, mH_l71, mH_l72, mH_l73, mH_l74, mH_l75, mH_c, r0, r1, rk]) rfl rfl (by decide) (by decide) (by (try simp (disch := omega) only [mH_t64, mH_r1, mH_r3, mH_r4, mH_r5, mH_r6, mH_r8, mH_r9, mH_r10, mH_r11, mH_r12, mH_r14, mH_i0, mH_i2, mH_i7, mH_i13, mH_i15, mH_t71, mH_t, mH_lr, mH_l65, mH_l69, mH_l70, mH_l71, mH_l72, mH_l73, mH_l74, mH_l75, mH_c, r0, r1, rk]); first | omega | exact bo_i _ | (have q9 := (gdrop_sz (A := D) (i := o.tdiv 10)).2; omega) | (have q9 := (sz_gall 12 hz).2.2; omega) | (have q9 := glt_b D; unfold glv; split <;> omega)) rfl ?_
                  try simp (disch := omega) only [mH_t64, mH_r1, mH_r3, mH_r4, mH_r5, mH_r6, mH_r8, mH_r9, mH_r10, mH_r11, mH_r12, mH_r14, mH_i0, mH_i2, mH_i7, mH_i13, mH_i15, mH_t71, mH_t, mH_lr, mH_l65, mH_l69, mH_l70, mH_l71, mH_l72, mH_l73, mH_l74, mH_l75, mH_c, r0, r1, rk]
                  refine e_step (pc' := 217) hK rfl rfl rfl ?_
                  refine e_step (pc' := 219) hK rfl rfl rfl ?_
                  refine e_step (pc' := 221) hK rfl rfl rfl ?_
                  refine e_irem (pc' := 222) hK rfl (by first | omega | exact bo_i _ | (have q9 := (gdrop_sz (A := D) (i := o.tdiv 10)).2; omega) | (have q9 := (sz_gall 12 hz).2.2; omega) | (have q9 := glt_b D; unfold glv; split <;> omega)) (by first | omega | exact bo_i _ | (have q9 := (gdrop_sz (A := D) (i := o.tdiv 10)).2; omega) | (have q9 := (sz_gall 12 hz).2.2; omega) | (have q9 := glt_b D; unfold glv; split <;> omega)) (by first | omega | exact bo_i _ | (have q9 := (gdrop_sz (A := D) (i := o.tdiv 10)).2; omega) | (have q9 := (sz_gall 12 hz).2.2; omega) | (have q9 := glt_b D; unfold glv; split <;> omega)) rfl ?_
                  refine e_cRS3 (z := 120) (pc' := 225) hK rfl rfl rfl (Nat.le_of_ble_eq_true rfl) (Nat.le_of_ble_eq_true rfl) (m_kindOf 267 (by omega) ((o.tdiv 10).tdiv 10) ((o.tdiv 10).tmod 10) (by omega) (by omega)) (by decide) rfl ?_
                  try simp (disch := omega) only [mH_t64, mH_r1, mH_r3, mH_r4, mH_r5, mH_r6, mH_r8, mH_r9, mH_r10, mH_r11, mH_r12, mH_r14, mH_i0, mH_i2, mH_i7, mH_i13, mH_i15, mH_t71, mH_t, mH_lr, mH_l65, mH_l69, mH_l70, mH_l71, mH_l72, mH_l73, mH_l74, mH_l75, mH_c, r0, r1, rk]
                  refine e_if (t := 230) (pc' := 228) hK rfl (by first | omega | exact bo_i _ | (have q9 := (gdrop_sz (A := D) (i := o.tdiv 10)).2; omega) | (have q9 := (sz_gall 12 hz).2.2; omega) | (have q9 := glt_b D; unfold glv; split <;> omega)) (by decide) rfl (fun hb225 => ?_) (fun hb225 => ?_)
                  · replace hb225 := cq_eq.1.mp hb225
                    try simp only [bo_0, Bool.not_eq_false] at hb225
                    refine e_step (pc' := 231) hK rfl rfl rfl ?_
                    refine e_getR (ci := 4) (k := 4) (pc' := 234) hK rfl (by simp (disch := omega) only [mH_t64, mH_r1, mH_r3, mH_r4, mH_r5, mH_r6, mH_r8, mH_r9, mH_r10, mH_r11, mH_r12, mH_r14, mH_i0, mH_i2, mH_i7, mH_i13, mH_i15, mH_t71, mH_t, mH_lr, mH_l65, mH_l69, mH_l70, mH_l71, mH_l72, mH_l73, mH_l74, mH_l75, mH_c, r0, r1, rk]) rfl rfl (by decide) (by decide) (by (try simp (disch := omega) only [mH_t64, mH_r1, mH_r3, mH_r4, mH_r5, mH_r6, mH_r8, mH_r9, mH_r10, mH_r11, mH_r12, mH_r14, mH_i0, mH_i2, mH_i7, mH_i13, mH_i15, mH_t71, mH_t, mH_lr, mH_l65, mH_l69, mH_l70, mH_l71, mH_l72, mH_l73, mH_l74, mH_l75, mH_c, r0, r1, rk]); first | omega | exact bo_i _ | (have q9 := (gdrop_sz (A := D) (i := o.tdiv 10)).2; omega) | (have q9 := (sz_gall 12 hz).2.2; omega) | (have q9 := glt_b D; unfold glv; split <;> omega)) rfl ?_
                    try simp (disch := omega) only [mH_t64, mH_r1, mH_r3, mH_r4, mH_r5, mH_r6, mH_r8, mH_r9, mH_r10, mH_r11, mH_r12, mH_r14, mH_i0, mH_i2, mH_i7, mH_i13, mH_i15, mH_t71, mH_t, mH_lr, mH_l65, mH_l69, mH_l70, mH_l71, mH_l72, mH_l73, mH_l74, mH_l75, mH_c, r0, r1, rk]
                    refine e_step (pc' := 235) hK rfl rfl rfl ?_
                    refine e_cRS1 (z := 119) (pc' := 238) hK rfl rfl rfl (Nat.le_of_ble_eq_true rfl) (Nat.le_of_ble_eq_true rfl) (m_tempAt ((o.tdiv 10).tdiv 10)) (by decide) rfl ?_
                    try simp (disch := omega) only [mH_t64, mH_r1, mH_r3, mH_r4, mH_r5, mH_r6, mH_r8, mH_r9, mH_r10, mH_r11, mH_r12, mH_r14, mH_i0, mH_i2, mH_i7, mH_i13, mH_i15, mH_t71, mH_t, mH_lr, mH_l65, mH_l69, mH_l70, mH_l71, mH_l72, mH_l73, mH_l74, mH_l75, mH_c, r0, r1, rk]
                    refine e_step (pc' := 239) hK rfl rfl rfl ?_
                    refine e_step (pc' := 240) hK rfl rfl rfl ?_
                    refine e_step (pc' := 242) hK rfl rfl rfl ?_
                    refine e_step (pc' := 244) hK rfl rfl rfl ?_
                    refine e_irem (pc' := 245) hK rfl (by first | omega | exact bo_i _ | (have q9 := (gdrop_sz (A := D) (i := o.tdiv 10)).2; omega) | (have q9 := (sz_gall 12 hz).2.2; omega) | (have q9 := glt_b D; unfold glv; split <;> omega)) (by first | omega | exact bo_i _ | (have q9 := (gdrop_sz (A := D) (i := o.tdiv 10)).2; omega) | (have q9 := (sz_gall 12 hz).2.2; omega) | (have q9 := glt_b D; unfold glv; split <;> omega)) (by first | omega | exact bo_i _ | (have q9 := (gdrop_sz (A := D) (i := o.tdiv 10)).2; omega) | (have q9 := (sz_gall 12 hz).2.2; omega) | (have q9 := glt_b D; unfold glv; split <;> omega)) rfl ?_
                    refine e_step (pc' := 246) hK rfl rfl rfl ?_
                    refine e_step (pc' := 247) hK rfl rfl rfl ?_
                    refine e_iast (pc' := 248) hK rfl (by simp (disch := omega) only [mH_t64, mH_r1, mH_r3, mH_r4, mH_r5, mH_r6, mH_r8, mH_r9, mH_r10, mH_r11, mH_r12, mH_r14, mH_i0, mH_i2, mH_i7, mH_i13, mH_i15, mH_t71, mH_t, mH_lr, mH_l65, mH_l69, mH_l70, mH_l71, mH_l72, mH_l73, mH_l74, mH_l75, mH_c, r0, r1, rk]) (by first | omega | exact bo_i _ | (have q9 := (gdrop_sz (A := D) (i := o.tdiv 10)).2; omega) | (have q9 := (sz_gall 12 hz).2.2; omega) | (have q9 := glt_b D; unfold glv; split <;> omega)) (by (try simp (disch := omega) only [mH_t64, mH_r1, mH_r3, mH_r4, mH_r5, mH_r6, mH_r8, mH_r9, mH_r10, mH_r11, mH_r12, mH_r14, mH_i0, mH_i2, mH_i7, mH_i13, mH_i15, mH_t71, mH_t, mH_lr, mH_l65, mH_l69, mH_l70, mH_l71, mH_l72, mH_l73, mH_l74, mH_l75, mH_c, r0, r1, rk]); first | omega | exact bo_i _ | (have q9 := (gdrop_sz (A := D) (i := o.tdiv 10)).2; omega) | (have q9 := (sz_gall 12 hz).2.2; omega) | (have q9 := glt_b D; unfold glv; split <;> omega)) rfl ?_
                    simp (disch := omega) only [mW_0, mW_2, mW_7, mW_13, mW_15, mW_a, gu_s]
                    refine e_step (pc' := 249) hK rfl rfl rfl ?_
                    refine e_ret hK rfl rfl (by first | rfl | (simp only [mv_ret]; rw [if_pos]; exact Or.inr ⟨rfl, by omega⟩) | (simp only [mv_ret]; rw [if_pos]; exact Or.inr ⟨rfl, by unfold mv_bo; split <;> first | exact Or.inl rfl | exact Or.inr rfl⟩)) ?_
                    have eg : gcm D k o = (true, gopen D ((o.tdiv 10).tdiv 10) ((o.tdiv 10).tmod 10)) := by { unfold gcm; rw [if_neg (by omega)]; rw [if_neg (by omega)]; rw [if_neg (by omega)]; rw [if_neg (by omega)]; rw [if_pos (by omega)]; rw [if_pos (by omega)]; exact (gop_m hz).2.2 hb225 }
                    exact ⟨by rw [eg]; rfl, rfl, _, rfl, fun b n1 _ _ _ _ => gu_n n1, fun _ => by { rw [eg]; exact (by { rw [gu_s]; exact Rw_open hR hI tb.1 tb.2.1 tb.2.2.1 tb.2.2.2 up_s (fun r hr => up_n hr) }) }⟩
                  · replace hb225 := cq_eq.2.mp hb225
                    try simp only [bo_0, Bool.not_eq_false] at hb225
                    refine e_step (pc' := 229) hK rfl rfl rfl ?_
                    refine e_ret hK rfl rfl (by first | rfl | (simp only [mv_ret]; rw [if_pos]; exact Or.inr ⟨rfl, by omega⟩) | (simp only [mv_ret]; rw [if_pos]; exact Or.inr ⟨rfl, by unfold mv_bo; split <;> first | exact Or.inl rfl | exact Or.inr rfl⟩)) ?_
                    have eg : (gcm D k o).1 = false := by { unfold gcm; rw [if_neg (by omega)]; rw [if_neg (by omega)]; rw [if_neg (by omega)]; rw [if_neg (by omega)]; rw [if_pos (by omega)]; rw [if_pos (by omega)]; exact (gop_m hz).2.1 hb225 }
                    exact ⟨by rw [eg]; rfl, rfl, v, rfl, fun b _ _ _ _ _ => rfl, fun q => by { rw [eg] at q; cases q }⟩
            · skip
              rcases j with _ | j
              · show mv_Ev _ _ 250 _ _ _ _ _
                refine e_step (pc' := 251) hK rfl rfl rfl ?_
                refine e_if (t := 265) (pc' := 254) hK rfl (by first | omega | exact bo_i _ | (have q9 := (gdrop_sz (A := D) (i := o.tdiv 10)).2; omega) | (have q9 := (sz_gall 12 hz).2.2; omega) | (have q9 := glt_b D; unfold glv; split <;> omega)) (by decide) rfl (fun hb251 => ?_) (fun hb251 => ?_)
                · replace hb251 := cq_gt.1.mp hb251
                  try simp only [bo_0, Bool.not_eq_false] at hb251
                  refine e_step (pc' := 266) hK rfl rfl rfl ?_
                  refine e_ret hK rfl rfl (by first | rfl | (simp only [mv_ret]; rw [if_pos]; exact Or.inr ⟨rfl, by omega⟩) | (simp only [mv_ret]; rw [if_pos]; exact Or.inr ⟨rfl, by unfold mv_bo; split <;> first | exact Or.inl rfl | exact Or.inr rfl⟩)) ?_
                  have eg : (gcm D k o).1 = false := by { unfold gcm; rw [if_neg (by omega)]; rw [if_neg (by omega)]; rw [if_neg (by omega)]; rw [if_neg (by omega)]; rw [if_neg (by omega)]; rw [if_pos (by omega)]; rw [if_neg (by omega)] }
                  exact ⟨by rw [eg]; rfl, rfl, v, rfl, fun b _ _ _ _ _ => rfl, fun q => by { rw [eg] at q; cases q }⟩
                · replace hb251 := cq_gt.2.mp hb251
                  try simp only [bo_0, Bool.not_eq_false] at hb251
                  refine e_step (pc' := 255) hK rfl rfl rfl ?_
                  refine e_step (pc' := 256) hK rfl rfl rfl ?_
                  refine e_getR (ci := 4) (k := 4) (pc' := 259) hK rfl (by simp (disch := omega) only [mH_t64, mH_r1, mH_r3, mH_r4, mH_r5, mH_r6, mH_r8, mH_r9, mH_r10, mH_r11, mH_r12, mH_r14, mH_i0, mH_i2, mH_i7, mH_i13, mH_i15, mH_t71, mH_t, mH_lr, mH_l65, mH_l69, mH_l70, mH_l71, mH_l72, mH_l73, mH_l74, mH_l75, mH_c, r0, r1]) rfl rfl (by decide) (by decide) (by (try simp (disch := omega) only [mH_t64, mH_r1, mH_r3, mH_r4, mH_r5, mH_r6, mH_r8, mH_r9, mH_r10, mH_r11, mH_r12, mH_r14, mH_i0, mH_i2, mH_i7, mH_i13, mH_i15, mH_t71, mH_t, mH_lr, mH_l65, mH_l69, mH_l70, mH_l71, mH_l72, mH_l73, mH_l74, mH_l75, mH_c, r0, r1]); first | omega | exact bo_i _ | (have q9 := (gdrop_sz (A := D) (i := o.tdiv 10)).2; omega) | (have q9 := (sz_gall 12 hz).2.2; omega) | (have q9 := glt_b D; unfold glv; split <;> omega)) rfl ?_
                  try simp (disch := omega) only [mH_t64, mH_r1, mH_r3, mH_r4, mH_r5, mH_r6, mH_r8, mH_r9, mH_r10, mH_r11, mH_r12, mH_r14, mH_i0, mH_i2, mH_i7, mH_i13, mH_i15, mH_t71, mH_t, mH_lr, mH_l65, mH_l69, mH_l70, mH_l71, mH_l72, mH_l73, mH_l74, mH_l75, mH_c, r0, r1]
                  refine e_cQV2 (z := 167) hK rfl rfl (by first | (simp (disch := omega) only [mH_t64, mH_r1, mH_r3, mH_r4, mH_r5, mH_r6, mH_r8, mH_r9, mH_r10, mH_r11, mH_r12, mH_r14, mH_i0, mH_i2, mH_i7, mH_i13, mH_i15, mH_t71, mH_t, mH_lr, mH_l65, mH_l69, mH_l70, mH_l71, mH_l72, mH_l73, mH_l74, mH_l75, mH_c, r0, r1]; rfl) | (show _ = 2; assumption) | (show _ = 1; assumption) | (show _ = 0; assumption) | (show _ = 3; assumption) | (show _ = 4; assumption)) rfl (Nat.le_of_ble_eq_true rfl) (Nat.le_of_ble_eq_true rfl) (m_anew 267 (by omega) hR hI bn) ?_
                  rintro _ _ _ ⟨rfl, rfl, a, rfl, ha, hra⟩
                  refine ⟨by show (0 : Nat) ≠ 4; decide, ?_⟩
                  rw [if_neg (by show ¬ (0 : Nat) = 3; decide)]
                  try dsimp only
                  show mv_Ev _ _ 262 _ _ _ _ _
                  refine e_if (t := 267) (pc' := 265) hK rfl (by first | omega | exact bo_i _ | (have q9 := (gdrop_sz (A := D) (i := o.tdiv 10)).2; omega) | (have q9 := (sz_gall 12 hz).2.2; omega) | (have q9 := glt_b D; unfold glv; split <;> omega)) (by decide) rfl (fun hb262 => ?_) (fun hb262 => ?_)
                  · replace hb262 := cq_ne.1.mp hb262
                    try simp only [bo_0, Bool.not_eq_false] at hb262
                    refine e_step (pc' := 268) hK rfl rfl rfl ?_
                    refine e_getR (ci := 4) (k := 5) (pc' := 271) hK rfl (by simp (disch := omega) only [mH_t64, mH_r1, mH_r3, mH_r4, mH_r5, mH_r6, mH_r8, mH_r9, mH_r10, mH_r11, mH_r12, mH_r14, mH_i0, mH_i2, mH_i7, mH_i13, mH_i15, mH_t71, mH_t, mH_lr, mH_l65, mH_l69, mH_l70, mH_l71, mH_l72, mH_l73, mH_l74, mH_l75, mH_c, r0, r1]) rfl rfl (by decide) (by decide) (by (try simp (disch := omega) only [mH_t64, mH_r1, mH_r3, mH_r4, mH_r5, mH_r6, mH_r8, mH_r9, mH_r10, mH_r11, mH_r12, mH_r14, mH_i0, mH_i2, mH_i7, mH_i13, mH_i15, mH_t71, mH_t, mH_lr, mH_l65, mH_l69, mH_l70, mH_l71, mH_l72, mH_l73, mH_l74, mH_l75, mH_c, r0, r1]); first | omega | exact bo_i _ | (have q9 := (gdrop_sz (A := D) (i := o.tdiv 10)).2; omega) | (have q9 := (sz_gall 12 hz).2.2; omega) | (have q9 := glt_b D; unfold glv; split <;> omega)) rfl ?_
                    try simp (disch := omega) only [mH_t64, mH_r1, mH_r3, mH_r4, mH_r5, mH_r6, mH_r8, mH_r9, mH_r10, mH_r11, mH_r12, mH_r14, mH_i0, mH_i2, mH_i7, mH_i13, mH_i15, mH_t71, mH_t, mH_lr, mH_l65, mH_l69, mH_l70, mH_l71, mH_l72, mH_l73, mH_l74, mH_l75, mH_c, r0, r1]
                    refine e_step (pc' := 272) hK rfl rfl rfl ?_
                    refine e_step (pc' := 273) hK rfl rfl rfl ?_
                    refine e_getR (ci := 4) (k := 4) (pc' := 276) hK rfl (by simp (disch := omega) only [mH_t64, mH_r1, mH_r3, mH_r4, mH_r5, mH_r6, mH_r8, mH_r9, mH_r10, mH_r11, mH_r12, mH_r14, mH_i0, mH_i2, mH_i7, mH_i13, mH_i15, mH_t71, mH_t, mH_lr, mH_l65, mH_l69, mH_l70, mH_l71, mH_l72, mH_l73, mH_l74, mH_l75, mH_c, r0, r1]) rfl rfl (by decide) (by decide) (by (try simp (disch := omega) only [mH_t64, mH_r1, mH_r3, mH_r4, mH_r5, mH_r6, mH_r8, mH_r9, mH_r10, mH_r11, mH_r12, mH_r14, mH_i0, mH_i2, mH_i7, mH_i13, mH_i15, mH_t71, mH_t, mH_lr, mH_l65, mH_l69, mH_l70, mH_l71, mH_l72, mH_l73, mH_l74, mH_l75, mH_c, r0, r1]); first | omega | exact bo_i _ | (have q9 := (gdrop_sz (A := D) (i := o.tdiv 10)).2; omega) | (have q9 := (sz_gall 12 hz).2.2; omega) | (have q9 := glt_b D; unfold glv; split <;> omega)) rfl ?_
                    try simp (disch := omega) only [mH_t64, mH_r1, mH_r3, mH_r4, mH_r5, mH_r6, mH_r8, mH_r9, mH_r10, mH_r11, mH_r12, mH_r14, mH_i0, mH_i2, mH_i7, mH_i13, mH_i15, mH_t71, mH_t, mH_lr, mH_l65, mH_l69, mH_l70, mH_l71, mH_l72, mH_l73, mH_l74, mH_l75, mH_c, r0, r1]
                    refine e_step (pc' := 277) hK rfl rfl rfl ?_
                    refine e_cQS4 (z := 151) hK rfl rfl rfl (Nat.le_of_ble_eq_true rfl) (Nat.le_of_ble_eq_true rfl) (m_copyLog 268 0 267 0 (by omega) (by omega) (by omega) (by omega) (by omega) (by show (0 : Int) + 1221 ≤ 1221 ∧ (1221 : Int) ≤ 20000; omega) (by show (0 : Int) + 1221 ≤ 1221 ∧ (1221 : Int) ≤ 20000; omega)) ?_
                    rintro _ _ _ ⟨rfl, rfl, u, rfl, hu0, ru9⟩
                    refine ⟨by decide, ?_⟩
                    rw [if_pos rfl]
                    try dsimp only
                    show mv_Ev _ _ 280 _ _ _ _ _
                    refine e_step (pc' := 281) hK rfl rfl rfl ?_
                    refine e_ret hK rfl rfl (by first | rfl | (simp only [mv_ret]; rw [if_pos]; exact Or.inr ⟨rfl, by omega⟩) | (simp only [mv_ret]; rw [if_pos]; exact Or.inr ⟨rfl, by unfold mv_bo; split <;> first | exact Or.inl rfl | exact Or.inr rfl⟩)) ?_
                    have eg : gcm D k o = (true, (gtk D (gn D)).2) := by { unfold gcm; rw [if_neg (by omega)]; rw [if_neg (by omega)]; rw [if_neg (by omega)]; rw [if_neg (by omega)]; rw [if_neg (by omega)]; rw [if_pos (by omega)]; rw [if_pos ⟨by omega, hb262⟩] }
                    exact ⟨by rw [eg]; rfl, rfl, u, rfl, fun b n1 n2 n3 n4 n5 => (hu0 b n1).trans (ha b n3 n4 n5 n2), fun _ => by { rw [eg]; exact (Rw_ext (hra hb262) (sz_gtk hz).1 (fun q q0 q1 => by { rw [ru9 q, if_pos (by omega)]; exact congrArg (a 268) (by omega) })) }⟩
                  · replace hb262 := cq_ne.2.mp hb262
                    try simp only [bo_0, Bool.not_eq_false] at hb262
                    refine e_step (pc' := 266) hK rfl rfl rfl ?_
                    refine e_ret hK rfl rfl (by first | rfl | (simp only [mv_ret]; rw [if_pos]; exact Or.inr ⟨rfl, by omega⟩) | (simp only [mv_ret]; rw [if_pos]; exact Or.inr ⟨rfl, by unfold mv_bo; split <;> first | exact Or.inl rfl | exact Or.inr rfl⟩)) ?_
                    have eg : (gcm D k o).1 = false := by { unfold gcm; rw [if_neg (by omega)]; rw [if_neg (by omega)]; rw [if_neg (by omega)]; rw [if_neg (by omega)]; rw [if_neg (by omega)]; rw [if_pos (by omega)]; rw [if_neg (fun q => by { rw [hb262] at q; cases q.2 })] }
                    exact ⟨by rw [eg]; rfl, rfl, a, rfl, fun b n1 n2 n3 n4 n5 => ha b n3 n4 n5 n2, fun q => by { rw [eg] at q; cases q }⟩
              · skip
                rcases j with _ | j
                · show mv_Ev _ _ 282 _ _ _ _ _
                  refine e_step (pc' := 283) hK rfl rfl rfl ?_
                  refine e_if (t := 300) (pc' := 286) hK rfl (by first | omega | exact bo_i _ | (have q9 := (gdrop_sz (A := D) (i := o.tdiv 10)).2; omega) | (have q9 := (sz_gall 12 hz).2.2; omega) | (have q9 := glt_b D; unfold glv; split <;> omega)) (by decide) rfl (fun hb283 => ?_) (fun hb283 => ?_)
                  · replace hb283 := cq_ne.1.mp hb283
                    try simp only [bo_0, Bool.not_eq_false] at hb283
                    refine e_step (pc' := 301) hK rfl rfl rfl ?_
                    refine e_ret hK rfl rfl (by first | rfl | (simp only [mv_ret]; rw [if_pos]; exact Or.inr ⟨rfl, by omega⟩) | (simp only [mv_ret]; rw [if_pos]; exact Or.inr ⟨rfl, by unfold mv_bo; split <;> first | exact Or.inl rfl | exact Or.inr rfl⟩)) ?_
                    have eg : (gcm D k o).1 = false := by { unfold gcm; rw [if_neg (by omega)]; rw [if_neg (by omega)]; rw [if_neg (by omega)]; rw [if_neg (by omega)]; rw [if_neg (by omega)]; rw [if_neg (by omega)]; rw [if_pos (by omega)]; exact decide_eq_false (by omega) }
                    exact ⟨by rw [eg]; rfl, rfl, v, rfl, fun b _ _ _ _ _ => rfl, fun q => by { rw [eg] at q; cases q }⟩
                  · replace hb283 := cq_ne.2.mp hb283
                    try simp only [bo_0, Bool.not_eq_false] at hb283
                    refine e_step (pc' := 287) hK rfl rfl rfl ?_
                    refine e_getR (ci := 4) (k := 4) (pc' := 290) hK rfl (by simp (disch := omega) only [mH_t64, mH_r1, mH_r3, mH_r4, mH_r5, mH_r6, mH_r8, mH_r9, mH_r10, mH_r11, mH_r12, mH_r14, mH_i0, mH_i2, mH_i7, mH_i13, mH_i15, mH_t71, mH_t, mH_lr, mH_l65, mH_l69, mH_l70, mH_l71, mH_l72, mH_l73, mH_l74, mH_l75, mH_c, r0, r1]) rfl rfl (by decide) (by decide) (by (try simp (disch := omega) only [mH_t64, mH_r1, mH_r3, mH_r4, mH_r5, mH_r6, mH_r8, mH_r9, mH_r10, mH_r11, mH_r12, mH_r14, mH_i0, mH_i2, mH_i7, mH_i13, mH_i15, mH_t71, mH_t, mH_lr, mH_l65, mH_l69, mH_l70, mH_l71, mH_l72, mH_l73, mH_l74, mH_l75, mH_c, r0, r1]); first | omega | exact bo_i _ | (have q9 := (gdrop_sz (A := D) (i := o.tdiv 10)).2; omega) | (have q9 := (sz_gall 12 hz).2.2; omega) | (have q9 := glt_b D; unfold glv; split <;> omega)) rfl ?_
                    try simp (disch := omega) only [mH_t64, mH_r1, mH_r3, mH_r4, mH_r5, mH_r6, mH_r8, mH_r9, mH_r10, mH_r11, mH_r12, mH_r14, mH_i0, mH_i2, mH_i7, mH_i13, mH_i15, mH_t71, mH_t, mH_lr, mH_l65, mH_l69, mH_l70, mH_l71, mH_l72, mH_l73, mH_l74, mH_l75, mH_c, r0, r1]
                    refine e_step (pc' := 291) hK rfl rfl rfl ?_
                    refine e_iald (pc' := 292) hK rfl (by simp (disch := omega) only [mH_t64, mH_r1, mH_r3, mH_r4, mH_r5, mH_r6, mH_r8, mH_r9, mH_r10, mH_r11, mH_r12, mH_r14, mH_i0, mH_i2, mH_i7, mH_i13, mH_i15, mH_t71, mH_t, mH_lr, mH_l65, mH_l69, mH_l70, mH_l71, mH_l72, mH_l73, mH_l74, mH_l75, mH_c, r0, r1]) (by first | omega | exact bo_i _ | (have q9 := (gdrop_sz (A := D) (i := o.tdiv 10)).2; omega) | (have q9 := (sz_gall 12 hz).2.2; omega) | (have q9 := glt_b D; unfold glv; split <;> omega)) (by (try simp (disch := omega) only [mH_t64, mH_r1, mH_r3, mH_r4, mH_r5, mH_r6, mH_r8, mH_r9, mH_r10, mH_r11, mH_r12, mH_r14, mH_i0, mH_i2, mH_i7, mH_i13, mH_i15, mH_t71, mH_t, mH_lr, mH_l65, mH_l69, mH_l70, mH_l71, mH_l72, mH_l73, mH_l74, mH_l75, mH_c, r0, r1]); first | omega | exact bo_i _ | (have q9 := (gdrop_sz (A := D) (i := o.tdiv 10)).2; omega) | (have q9 := (sz_gall 12 hz).2.2; omega) | (have q9 := glt_b D; unfold glv; split <;> omega)) rfl ?_
                    try simp (disch := omega) only [mH_t64, mH_r1, mH_r3, mH_r4, mH_r5, mH_r6, mH_r8, mH_r9, mH_r10, mH_r11, mH_r12, mH_r14, mH_i0, mH_i2, mH_i7, mH_i13, mH_i15, mH_t71, mH_t, mH_lr, mH_l65, mH_l69, mH_l70, mH_l71, mH_l72, mH_l73, mH_l74, mH_l75, mH_c, r0, r1]
                    refine e_step (pc' := 293) hK rfl rfl rfl ?_
                    refine e_icmp (t := 300) (pc' := 296) hK rfl (by first | omega | exact bo_i _ | (have q9 := (gdrop_sz (A := D) (i := o.tdiv 10)).2; omega) | (have q9 := (sz_gall 12 hz).2.2; omega) | (have q9 := glt_b D; unfold glv; split <;> omega)) (by first | omega | exact bo_i _ | (have q9 := (gdrop_sz (A := D) (i := o.tdiv 10)).2; omega) | (have q9 := (sz_gall 12 hz).2.2; omega) | (have q9 := glt_b D; unfold glv; split <;> omega)) (by decide) rfl (fun hb293 => ?_) (fun hb293 => ?_)
                    · replace hb293 := cq_gt.1.mp hb293
                      try simp only [bo_0, Bool.not_eq_false] at hb293
                      refine e_step (pc' := 301) hK rfl rfl rfl ?_
                      refine e_ret hK rfl rfl (by first | rfl | (simp only [mv_ret]; rw [if_pos]; exact Or.inr ⟨rfl, by omega⟩) | (simp only [mv_ret]; rw [if_pos]; exact Or.inr ⟨rfl, by unfold mv_bo; split <;> first | exact Or.inl rfl | exact Or.inr rfl⟩)) ?_
                      have eg : (gcm D k o).1 = false := by { unfold gcm; rw [if_neg (by omega)]; rw [if_neg (by omega)]; rw [if_neg (by omega)]; rw [if_neg (by omega)]; rw [if_neg (by omega)]; rw [if_neg (by omega)]; rw [if_pos (by omega)]; exact decide_eq_false (by omega) }
                      exact ⟨by rw [eg]; rfl, rfl, v, rfl, fun b _ _ _ _ _ => rfl, fun q => by { rw [eg] at q; cases q }⟩
                    · replace hb293 := cq_gt.2.mp hb293
                      try simp only [bo_0, Bool.not_eq_false] at hb293
                      refine e_step (pc' := 297) hK rfl rfl rfl ?_
                      refine e_goto (t := 301) hK rfl (by decide) ?_
                      refine e_ret hK rfl rfl (by first | rfl | (simp only [mv_ret]; rw [if_pos]; exact Or.inr ⟨rfl, by omega⟩) | (simp only [mv_ret]; rw [if_pos]; exact Or.inr ⟨rfl, by unfold mv_bo; split <;> first | exact Or.inl rfl | exact Or.inr rfl⟩)) ?_
                      have eg : gcm D k o = (true, D) := by { unfold gcm; rw [if_neg (by omega)]; rw [if_neg (by omega)]; rw [if_neg (by omega)]; rw [if_neg (by omega)]; rw [if_neg (by omega)]; rw [if_neg (by omega)]; rw [if_pos (by omega)]; rw [decide_eq_true (by omega)] }
                      exact ⟨by rw [eg]; rfl, rfl, v, rfl, fun b _ _ _ _ _ => rfl, fun _ => by { rw [eg]; exact hR }⟩
                · skip
                  rcases j with _ | j
                  · show mv_Ev _ _ 302 _ _ _ _ _
                    refine e_step (pc' := 303) hK rfl rfl rfl ?_
                    refine e_step (pc' := 304) hK rfl rfl rfl ?_
                    refine e_getR (ci := 4) (k := 4) (pc' := 307) hK rfl (by simp (disch := omega) only [mH_t64, mH_r1, mH_r3, mH_r4, mH_r5, mH_r6, mH_r8, mH_r9, mH_r10, mH_r11, mH_r12, mH_r14, mH_i0, mH_i2, mH_i7, mH_i13, mH_i15, mH_t71, mH_t, mH_lr, mH_l65, mH_l69, mH_l70, mH_l71, mH_l72, mH_l73, mH_l74, mH_l75, mH_c, r0, r1]) rfl rfl (by decide) (by decide) (by (try simp (disch := omega) only [mH_t64, mH_r1, mH_r3, mH_r4, mH_r5, mH_r6, mH_r8, mH_r9, mH_r10, mH_r11, mH_r12, mH_r14, mH_i0, mH_i2, mH_i7, mH_i13, mH_i15, mH_t71, mH_t, mH_lr, mH_l65, mH_l69, mH_l70, mH_l71, mH_l72, mH_l73, mH_l74, mH_l75, mH_c, r0, r1]); first | omega | exact bo_i _ | (have q9 := (gdrop_sz (A := D) (i := o.tdiv 10)).2; omega) | (have q9 := (sz_gall 12 hz).2.2; omega) | (have q9 := glt_b D; unfold glv; split <;> omega)) rfl ?_
                    try simp (disch := omega) only [mH_t64, mH_r1, mH_r3, mH_r4, mH_r5, mH_r6, mH_r8, mH_r9, mH_r10, mH_r11, mH_r12, mH_r14, mH_i0, mH_i2, mH_i7, mH_i13, mH_i15, mH_t71, mH_t, mH_lr, mH_l65, mH_l69, mH_l70, mH_l71, mH_l72, mH_l73, mH_l74, mH_l75, mH_c, r0, r1]
                    refine e_cQV2 (z := 117) hK rfl rfl (by first | (simp (disch := omega) only [mH_t64, mH_r1, mH_r3, mH_r4, mH_r5, mH_r6, mH_r8, mH_r9, mH_r10, mH_r11, mH_r12, mH_r14, mH_i0, mH_i2, mH_i7, mH_i13, mH_i15, mH_t71, mH_t, mH_lr, mH_l65, mH_l69, mH_l70, mH_l71, mH_l72, mH_l73, mH_l74, mH_l75, mH_c, r0, r1]; rfl) | (show _ = 2; assumption) | (show _ = 1; assumption) | (show _ = 0; assumption) | (show _ = 3; assumption) | (show _ = 4; assumption)) rfl (Nat.le_of_ble_eq_true rfl) (Nat.le_of_ble_eq_true rfl) (m_costLines 267 (by omega) hR hI) ?_
                    rintro _ _ _ ⟨rfl, rfl, w, rfl, hw⟩
                    refine ⟨by show (0 : Nat) ≠ 4; decide, ?_⟩
                    rw [if_neg (by show ¬ (0 : Nat) = 3; decide)]
                    try dsimp only
                    show mv_Ev _ _ 310 _ _ _ _ _
                    refine e_step (pc' := 311) hK rfl rfl rfl ?_
                    refine e_step (pc' := 312) hK rfl rfl rfl ?_
                    refine e_getR (ci := 4) (k := 4) (pc' := 315) hK rfl (by simp (disch := omega) only [mH_t64, mH_r1, mH_r3, mH_r4, mH_r5, mH_r6, mH_r8, mH_r9, mH_r10, mH_r11, mH_r12, mH_r14, mH_i0, mH_i2, mH_i7, mH_i13, mH_i15, mH_t71, mH_t, mH_lr, mH_l65, mH_l69, mH_l70, mH_l71, mH_l72, mH_l73, mH_l74, mH_l75, mH_c, r0, r1]) rfl rfl (by decide) (by decide) (by (try simp (disch := omega) only [mH_t64, mH_r1, mH_r3, mH_r4, mH_r5, mH_r6, mH_r8, mH_r9, mH_r10, mH_r11, mH_r12, mH_r14, mH_i0, mH_i2, mH_i7, mH_i13, mH_i15, mH_t71, mH_t, mH_lr, mH_l65, mH_l69, mH_l70, mH_l71, mH_l72, mH_l73, mH_l74, mH_l75, mH_c, r0, r1]); first | omega | exact bo_i _ | (have q9 := (gdrop_sz (A := D) (i := o.tdiv 10)).2; omega) | (have q9 := (sz_gall 12 hz).2.2; omega) | (have q9 := glt_b D; unfold glv; split <;> omega)) rfl ?_
                    try simp (disch := omega) only [mH_t64, mH_r1, mH_r3, mH_r4, mH_r5, mH_r6, mH_r8, mH_r9, mH_r10, mH_r11, mH_r12, mH_r14, mH_i0, mH_i2, mH_i7, mH_i13, mH_i15, mH_t71, mH_t, mH_lr, mH_l65, mH_l69, mH_l70, mH_l71, mH_l72, mH_l73, mH_l74, mH_l75, mH_c, r0, r1]
                    refine e_cQV2 (z := 127) hK rfl rfl (by first | (simp (disch := omega) only [mH_t64, mH_r1, mH_r3, mH_r4, mH_r5, mH_r6, mH_r8, mH_r9, mH_r10, mH_r11, mH_r12, mH_r14, mH_i0, mH_i2, mH_i7, mH_i13, mH_i15, mH_t71, mH_t, mH_lr, mH_l65, mH_l69, mH_l70, mH_l71, mH_l72, mH_l73, mH_l74, mH_l75, mH_c, r0, r1]; rfl) | (show _ = 2; assumption) | (show _ = 1; assumption) | (show _ = 0; assumption) | (show _ = 3; assumption) | (show _ = 4; assumption)) rfl (Nat.le_of_ble_eq_true rfl) (Nat.le_of_ble_eq_true rfl) (m_costTemps 267 (by omega) (by rw [hw 267 (by omega) (by omega) (by omega)]; exact hR) hI) ?_
                    rintro _ _ _ ⟨rfl, rfl, w2, rfl, hw2⟩
                    refine ⟨by show (0 : Nat) ≠ 4; decide, ?_⟩
                    rw [if_neg (by show ¬ (0 : Nat) = 3; decide)]
                    try dsimp only
                    show mv_Ev _ _ 318 _ _ _ _ _
                    have q1 := cols_b (sz_B hz)
                    have q2 := cots_b (sz_B hz)
                    refine e_step (pc' := 319) hK rfl rfl rfl ?_
                    refine e_step (pc' := 320) hK rfl rfl rfl ?_
                    refine e_icmp (t := 327) (pc' := 323) hK rfl (by first | omega | exact bo_i _ | (have q9 := (gdrop_sz (A := D) (i := o.tdiv 10)).2; omega) | (have q9 := (sz_gall 12 hz).2.2; omega) | (have q9 := glt_b D; unfold glv; split <;> omega)) (by first | omega | exact bo_i _ | (have q9 := (gdrop_sz (A := D) (i := o.tdiv 10)).2; omega) | (have q9 := (sz_gall 12 hz).2.2; omega) | (have q9 := glt_b D; unfold glv; split <;> omega)) (by decide) rfl (fun hb320 => ?_) (fun hb320 => ?_)
                    · replace hb320 := cq_gt.1.mp hb320
                      try simp only [bo_0, Bool.not_eq_false] at hb320
                      refine e_step (pc' := 328) hK rfl rfl rfl ?_
                      refine e_ret hK rfl rfl (by first | rfl | (simp only [mv_ret]; rw [if_pos]; exact Or.inr ⟨rfl, by omega⟩) | (simp only [mv_ret]; rw [if_pos]; exact Or.inr ⟨rfl, by unfold mv_bo; split <;> first | exact Or.inl rfl | exact Or.inr rfl⟩)) ?_
                      have eg : (gcm D k o).1 = false := by { unfold gcm; rw [if_neg (by omega)]; rw [if_neg (by omega)]; rw [if_neg (by omega)]; rw [if_neg (by omega)]; rw [if_neg (by omega)]; rw [if_neg (by omega)]; rw [if_neg (by omega)]; rw [if_pos (by omega)]; exact decide_eq_false (by { show ¬ cols D + cots D ≤ o; omega }) }
                      exact ⟨by rw [eg]; rfl, rfl, w2, rfl, fun b _ _ n3 n4 n5 => (hw2 b n3 n4 n5).trans (hw b n3 n4 n5), fun q => by { rw [eg] at q; cases q }⟩
                    · replace hb320 := cq_gt.2.mp hb320
                      try simp only [bo_0, Bool.not_eq_false] at hb320
                      refine e_step (pc' := 324) hK rfl rfl rfl ?_
                      refine e_goto (t := 328) hK rfl (by decide) ?_
                      refine e_ret hK rfl rfl (by first | rfl | (simp only [mv_ret]; rw [if_pos]; exact Or.inr ⟨rfl, by omega⟩) | (simp only [mv_ret]; rw [if_pos]; exact Or.inr ⟨rfl, by unfold mv_bo; split <;> first | exact Or.inl rfl | exact Or.inr rfl⟩)) ?_
                      have eg : gcm D k o = (true, D) := by { unfold gcm; rw [if_neg (by omega)]; rw [if_neg (by omega)]; rw [if_neg (by omega)]; rw [if_neg (by omega)]; rw [if_neg (by omega)]; rw [if_neg (by omega)]; rw [if_neg (by omega)]; rw [if_pos (by omega)]; rw [decide_eq_true (show cal D ≤ o from by { show cols D + cots D ≤ o; omega })] }
                      exact ⟨by rw [eg]; rfl, rfl, w2, rfl, fun b _ _ n3 n4 n5 => (hw2 b n3 n4 n5).trans (hw b n3 n4 n5), fun _ => by { rw [eg]; exact (by { rw [hw2 267 (by omega) (by omega) (by omega), hw 267 (by omega) (by omega) (by omega)]; exact hR }) }⟩
                  · skip
                    rcases j with _ | j
                    · show mv_Ev _ _ 329 _ _ _ _ _
                      refine e_step (pc' := 330) hK rfl rfl rfl ?_
                      refine e_getR (ci := 4) (k := 4) (pc' := 333) hK rfl (by simp (disch := omega) only [mH_t64, mH_r1, mH_r3, mH_r4, mH_r5, mH_r6, mH_r8, mH_r9, mH_r10, mH_r11, mH_r12, mH_r14, mH_i0, mH_i2, mH_i7, mH_i13, mH_i15, mH_t71, mH_t, mH_lr, mH_l65, mH_l69, mH_l70, mH_l71, mH_l72, mH_l73, mH_l74, mH_l75, mH_c, r0, r1]) rfl rfl (by decide) (by decide) (by (try simp (disch := omega) only [mH_t64, mH_r1, mH_r3, mH_r4, mH_r5, mH_r6, mH_r8, mH_r9, mH_r10, mH_r11, mH_r12, mH_r14, mH_i0, mH_i2, mH_i7, mH_i13, mH_i15, mH_t71, mH_t, mH_lr, mH_l65, mH_l69, mH_l70, mH_l71, mH_l72, mH_l73, mH_l74, mH_l75, mH_c, r0, r1]); first | omega | exact bo_i _ | (have q9 := (gdrop_sz (A := D) (i := o.tdiv 10)).2; omega) | (have q9 := (sz_gall 12 hz).2.2; omega) | (have q9 := glt_b D; unfold glv; split <;> omega)) rfl ?_
                      try simp (disch := omega) only [mH_t64, mH_r1, mH_r3, mH_r4, mH_r5, mH_r6, mH_r8, mH_r9, mH_r10, mH_r11, mH_r12, mH_r14, mH_i0, mH_i2, mH_i7, mH_i13, mH_i15, mH_t71, mH_t, mH_lr, mH_l65, mH_l69, mH_l70, mH_l71, mH_l72, mH_l73, mH_l74, mH_l75, mH_c, r0, r1]
                      refine e_step (pc' := 335) hK rfl rfl rfl ?_
                      refine e_cRS2 (z := 134) (pc' := 338) hK rfl rfl rfl (Nat.le_of_ble_eq_true rfl) (Nat.le_of_ble_eq_true rfl) (m_isLine 267 (by omega) (o.tdiv 10) (by omega) (by rw [r0]; omega)) (by decide) rfl ?_
                      try simp (disch := omega) only [mH_t64, mH_r1, mH_r3, mH_r4, mH_r5, mH_r6, mH_r8, mH_r9, mH_r10, mH_r11, mH_r12, mH_r14, mH_i0, mH_i2, mH_i7, mH_i13, mH_i15, mH_t71, mH_t, mH_lr, mH_l65, mH_l69, mH_l70, mH_l71, mH_l72, mH_l73, mH_l74, mH_l75, mH_c, r0, r1]
                      refine e_if (t := 362) (pc' := 341) hK rfl (by first | omega | exact bo_i _ | (have q9 := (gdrop_sz (A := D) (i := o.tdiv 10)).2; omega) | (have q9 := (sz_gall 12 hz).2.2; omega) | (have q9 := glt_b D; unfold glv; split <;> omega)) (by decide) rfl (fun hb338 => ?_) (fun hb338 => ?_)
                      · replace hb338 := cq_eq.1.mp hb338
                        try simp only [bo_0, Bool.not_eq_false] at hb338
                        refine e_step (pc' := 363) hK rfl rfl rfl ?_
                        refine e_ret hK rfl rfl (by first | rfl | (simp only [mv_ret]; rw [if_pos]; exact Or.inr ⟨rfl, by omega⟩) | (simp only [mv_ret]; rw [if_pos]; exact Or.inr ⟨rfl, by unfold mv_bo; split <;> first | exact Or.inl rfl | exact Or.inr rfl⟩)) ?_
                        simp only [Bool.and_eq_false_iff, decide_eq_false_iff_not] at hb338
                        have eg : (gcm D k o).1 = false := by { unfold gcm; rw [if_neg (by omega)]; rw [if_neg (by omega)]; rw [if_neg (by omega)]; rw [if_neg (by omega)]; rw [if_neg (by omega)]; rw [if_neg (by omega)]; rw [if_neg (by omega)]; rw [if_neg (by omega)]; rw [if_pos (by omega)]; exact decide_eq_false (by omega) }
                        exact ⟨by rw [eg]; rfl, rfl, v, rfl, fun b _ _ _ _ _ => rfl, fun q => by { rw [eg] at q; cases q }⟩
                      · replace hb338 := cq_eq.2.mp hb338
                        try simp only [bo_0, Bool.not_eq_false] at hb338
                        simp only [Bool.and_eq_true, decide_eq_true_eq] at hb338
                        have i0 : 0 ≤ o.tdiv 10 ∧ o.tdiv 10 < gn D := by omega
                        have rP := (hR.2.2.1 _ i0.1 i0.2).2
                        have pb := gP_b hI i0.1 i0.2
                        refine e_step (pc' := 342) hK rfl rfl rfl ?_
                        refine e_getR (ci := 4) (k := 4) (pc' := 345) hK rfl (by simp (disch := omega) only [mH_t64, mH_r1, mH_r3, mH_r4, mH_r5, mH_r6, mH_r8, mH_r9, mH_r10, mH_r11, mH_r12, mH_r14, mH_i0, mH_i2, mH_i7, mH_i13, mH_i15, mH_t71, mH_t, mH_lr, mH_l65, mH_l69, mH_l70, mH_l71, mH_l72, mH_l73, mH_l74, mH_l75, mH_c, r0, r1, rP]) rfl rfl (by decide) (by decide) (by (try simp (disch := omega) only [mH_t64, mH_r1, mH_r3, mH_r4, mH_r5, mH_r6, mH_r8, mH_r9, mH_r10, mH_r11, mH_r12, mH_r14, mH_i0, mH_i2, mH_i7, mH_i13, mH_i15, mH_t71, mH_t, mH_lr, mH_l65, mH_l69, mH_l70, mH_l71, mH_l72, mH_l73, mH_l74, mH_l75, mH_c, r0, r1, rP]); first | omega | exact bo_i _ | (have q9 := (gdrop_sz (A := D) (i := o.tdiv 10)).2; omega) | (have q9 := (sz_gall 12 hz).2.2; omega) | (have q9 := glt_b D; unfold glv; split <;> omega)) rfl ?_
                        try simp (disch := omega) only [mH_t64, mH_r1, mH_r3, mH_r4, mH_r5, mH_r6, mH_r8, mH_r9, mH_r10, mH_r11, mH_r12, mH_r14, mH_i0, mH_i2, mH_i7, mH_i13, mH_i15, mH_t71, mH_t, mH_lr, mH_l65, mH_l69, mH_l70, mH_l71, mH_l72, mH_l73, mH_l74, mH_l75, mH_c, r0, r1, rP]
                        refine e_step (pc' := 347) hK rfl rfl rfl ?_
                        refine e_cRS1 (z := 116) (pc' := 350) hK rfl rfl rfl (Nat.le_of_ble_eq_true rfl) (Nat.le_of_ble_eq_true rfl) (m_lineAt (o.tdiv 10)) (by decide) rfl ?_
                        try simp (disch := omega) only [mH_t64, mH_r1, mH_r3, mH_r4, mH_r5, mH_r6, mH_r8, mH_r9, mH_r10, mH_r11, mH_r12, mH_r14, mH_i0, mH_i2, mH_i7, mH_i13, mH_i15, mH_t71, mH_t, mH_lr, mH_l65, mH_l69, mH_l70, mH_l71, mH_l72, mH_l73, mH_l74, mH_l75, mH_c, r0, r1, rP]
                        refine e_step (pc' := 351) hK rfl rfl rfl ?_
                        refine e_step (pc' := 352) hK rfl rfl rfl ?_
                        refine e_iald (pc' := 353) hK rfl (by simp (disch := omega) only [mH_t64, mH_r1, mH_r3, mH_r4, mH_r5, mH_r6, mH_r8, mH_r9, mH_r10, mH_r11, mH_r12, mH_r14, mH_i0, mH_i2, mH_i7, mH_i13, mH_i15, mH_t71, mH_t, mH_lr, mH_l65, mH_l69, mH_l70, mH_l71, mH_l72, mH_l73, mH_l74, mH_l75, mH_c, r0, r1, rP]) (by first | omega | exact bo_i _ | (have q9 := (gdrop_sz (A := D) (i := o.tdiv 10)).2; omega) | (have q9 := (sz_gall 12 hz).2.2; omega) | (have q9 := glt_b D; unfold glv; split <;> omega)) (by (try simp (disch := omega) only [mH_t64, mH_r1, mH_r3, mH_r4, mH_r5, mH_r6, mH_r8, mH_r9, mH_r10, mH_r11, mH_r12, mH_r14, mH_i0, mH_i2, mH_i7, mH_i13, mH_i15, mH_t71, mH_t, mH_lr, mH_l65, mH_l69, mH_l70, mH_l71, mH_l72, mH_l73, mH_l74, mH_l75, mH_c, r0, r1, rP]); first | omega | exact bo_i _ | (have q9 := (gdrop_sz (A := D) (i := o.tdiv 10)).2; omega) | (have q9 := (sz_gall 12 hz).2.2; omega) | (have q9 := glt_b D; unfold glv; split <;> omega)) rfl ?_
                        try simp (disch := omega) only [mH_t64, mH_r1, mH_r3, mH_r4, mH_r5, mH_r6, mH_r8, mH_r9, mH_r10, mH_r11, mH_r12, mH_r14, mH_i0, mH_i2, mH_i7, mH_i13, mH_i15, mH_t71, mH_t, mH_lr, mH_l65, mH_l69, mH_l70, mH_l71, mH_l72, mH_l73, mH_l74, mH_l75, mH_c, r0, r1, rP]
                        refine e_step (pc' := 355) hK rfl rfl rfl ?_
                        refine e_icmp (t := 362) (pc' := 358) hK rfl (by first | omega | exact bo_i _ | (have q9 := (gdrop_sz (A := D) (i := o.tdiv 10)).2; omega) | (have q9 := (sz_gall 12 hz).2.2; omega) | (have q9 := glt_b D; unfold glv; split <;> omega)) (by first | omega | exact bo_i _ | (have q9 := (gdrop_sz (A := D) (i := o.tdiv 10)).2; omega) | (have q9 := (sz_gall 12 hz).2.2; omega) | (have q9 := glt_b D; unfold glv; split <;> omega)) (by decide) rfl (fun hb355 => ?_) (fun hb355 => ?_)
                        · replace hb355 := cq_ne.1.mp hb355
                          try simp only [bo_0, Bool.not_eq_false] at hb355
                          refine e_step (pc' := 363) hK rfl rfl rfl ?_
                          refine e_ret hK rfl rfl (by first | rfl | (simp only [mv_ret]; rw [if_pos]; exact Or.inr ⟨rfl, by omega⟩) | (simp only [mv_ret]; rw [if_pos]; exact Or.inr ⟨rfl, by unfold mv_bo; split <;> first | exact Or.inl rfl | exact Or.inr rfl⟩)) ?_
                          have eg : (gcm D k o).1 = false := by { unfold gcm; rw [if_neg (by omega)]; rw [if_neg (by omega)]; rw [if_neg (by omega)]; rw [if_neg (by omega)]; rw [if_neg (by omega)]; rw [if_neg (by omega)]; rw [if_neg (by omega)]; rw [if_neg (by omega)]; rw [if_pos (by omega)]; rw [gt_P i0.1 i0.2]; exact decide_eq_false (by omega) }
                          exact ⟨by rw [eg]; rfl, rfl, v, rfl, fun b _ _ _ _ _ => rfl, fun q => by { rw [eg] at q; cases q }⟩
                        · replace hb355 := cq_ne.2.mp hb355
                          try simp only [bo_0, Bool.not_eq_false] at hb355
                          refine e_step (pc' := 359) hK rfl rfl rfl ?_
                          refine e_goto (t := 363) hK rfl (by decide) ?_
                          refine e_ret hK rfl rfl (by first | rfl | (simp only [mv_ret]; rw [if_pos]; exact Or.inr ⟨rfl, by omega⟩) | (simp only [mv_ret]; rw [if_pos]; exact Or.inr ⟨rfl, by unfold mv_bo; split <;> first | exact Or.inl rfl | exact Or.inr rfl⟩)) ?_
                          have eg : gcm D k o = (true, D) := by { unfold gcm; rw [if_neg (by omega)]; rw [if_neg (by omega)]; rw [if_neg (by omega)]; rw [if_neg (by omega)]; rw [if_neg (by omega)]; rw [if_neg (by omega)]; rw [if_neg (by omega)]; rw [if_neg (by omega)]; rw [if_pos (by omega)]; rw [gt_P i0.1 i0.2, decide_eq_true (show 0 ≤ o.tdiv 10 ∧ o.tdiv 10 < gn D ∧ gP D (o.tdiv 10) = o.tmod 10 by omega)] }
                          exact ⟨by rw [eg]; rfl, rfl, v, rfl, fun b _ _ _ _ _ => rfl, fun _ => by { rw [eg]; exact hR }⟩
                    · skip
                      exact absurd hj (by show ¬ _ < 9; omega)
set_option maxRecDepth 10000 in
theorem g_runL {v1 : mvt} {W : wt} (hM1 : MdA v1 W) (z1 : v1 264 0 = 0) (n s : Int) (hn : 1 ≤ n ∧ n ≤ 4) (hs0 : 0 ≤ s) (hs : mv_l s) (R : Int) : ∀ (m : Nat) (i : Nat) (D : lg) (w : mvt) (a7 : mv_V), (i + m = n.toNat ∧ Rw (w 267) D ∧ sz D ∧ MdA w W ∧ w 264 0 = 0 ∧ scr s n m D = R) → mv_Ev sc 177 86 [(2, 264), (0, n), (1, s), (5, 0), (1, (10000 : Int) ^ m), (5, 0), (0, (i : Int)), a7] [] c (mH h w) (fun r c' h' => r = (0, R) ∧ c' = c ∧ ∃ w, h' = mH h w ∧ MdA w W ∧ w 264 0 = 0) := by
  intro m
  induction m with
  | zero =>
    intro i D w a7 ⟨hi, hR, hz, hM, hzz, hRR⟩
    have hK : (mv_m 177).1 = kc_Mod_runScript := rfl
    refine e_step (pc' := 88) hK rfl rfl rfl ?_
    refine e_step (pc' := 89) hK rfl rfl rfl ?_
    refine e_icmp (t := 147) (pc' := 92) hK rfl (by first | omega | exact bo_i _) (by first | omega | exact bo_i _) (by decide) rfl (fun hb89 => ?_) (fun hb89 => ?_)
    · replace hb89 := cq_ge.1.mp hb89
      try simp only [bo_0, Bool.not_eq_false] at hb89
      refine e_step (pc' := 150) hK rfl rfl rfl ?_
      refine e_ret hK rfl rfl rfl ?_
      rw [← hRR]
      exact ⟨rfl, rfl, w, rfl, hM, hzz⟩
    · replace hb89 := cq_ge.2.mp hb89
      try simp only [bo_0, Bool.not_eq_false] at hb89
      exfalso; first | omega | exact absurd trivial (by assumption) | (first | omega | exact bo_i _)
  | succ m ih =>
    intro i D w a7 ⟨hi, hR, hz, hM, hzz, hRR⟩
    have hK : (mv_m 177).1 = kc_Mod_runScript := rfl
    refine e_step (pc' := 88) hK rfl rfl rfl ?_
    refine e_step (pc' := 89) hK rfl rfl rfl ?_
    refine e_icmp (t := 147) (pc' := 92) hK rfl (by first | omega | exact bo_i _) (by first | omega | exact bo_i _) (by decide) rfl (fun hb89 => ?_) (fun hb89 => ?_)
    · replace hb89 := cq_ge.1.mp hb89
      try simp only [bo_0, Bool.not_eq_false] at hb89
      exfalso; first | omega | exact absurd trivial (by assumption) | (first | omega | exact bo_i _)
    · replace hb89 := cq_ge.2.mp hb89
      try simp only [bo_0, Bool.not_eq_false] at hb89
      have hp := p4_b m (by omega)
      have hpw : (10000 : Int) ^ (m + 1) = 10000 ^ m * 10000 := Int.pow_succ _ _
      have hp1 := p4_b (m + 1) (by omega)
      refine e_step (pc' := 94) hK rfl rfl rfl ?_
      refine e_step (pc' := 97) hK rfl rfl rfl ?_
      refine e_ldiv (pc' := 98) hK rfl (by first | omega | exact bo_i _) (by first | omega | exact bo_i _) (by first | omega | exact bo_i _) rfl ?_
      have ed : ((10000 : Int) ^ (m + 1)).tdiv 10000 = 10000 ^ m := by { rw [hpw]; exact Int.mul_tdiv_cancel _ (by decide) }
      rw [ed]
      refine e_step (pc' := 100) hK rfl rfl rfl ?_
      try simp only [List.set_cons_zero, List.set_cons_succ]
      refine e_step (pc' := 101) hK rfl rfl rfl ?_
      refine e_step (pc' := 103) hK rfl rfl rfl ?_
      refine e_ldiv (pc' := 104) hK rfl (by first | omega | exact bo_i _) (by first | omega | exact bo_i _) (by first | omega | exact bo_i _) rfl ?_
      have esg : s.tdiv ((10000 : Int) ^ m) = sg4 s m := by { rw [sg4_e hs0, Int.tdiv_eq_ediv_of_nonneg hs0] }
      rw [esg]
      have hsb := sg4_b hs0 hs m
      refine e_step (pc' := 107) hK rfl rfl rfl ?_
      refine e_lrem (pc' := 108) hK rfl (by first | omega | exact bo_i _) (by first | omega | exact bo_i _) (by first | omega | exact bo_i _) rfl ?_
      refine e_step (pc' := 109) hK rfl rfl rfl ?_
      refine e_step (pc' := 111) hK rfl rfl rfl ?_
      try simp only [List.set_cons_zero, List.set_cons_succ]
      have e2 : (sg4 s m).tmod 10000 = sg4 s m % 10000 := Int.tmod_eq_emod_of_nonneg hsb.1
      have e8 : ((sg4 s m).tmod 10000).tmod 1000 = ((sg4 s m).tmod 10000) % 1000 := Int.tmod_eq_emod_of_nonneg (by omega)
      have e7 : ((sg4 s m).tmod 10000).tdiv 1000 = ((sg4 s m).tmod 10000) / 1000 := Int.tdiv_eq_ediv_of_nonneg (by omega)
      have e6 : ((sg4 s m).tmod 10000).tdiv 100 = ((sg4 s m).tmod 10000) / 100 := Int.tdiv_eq_ediv_of_nonneg (by omega)
      have e5 : (((sg4 s m).tmod 10000).tdiv 100).tmod 10 = (((sg4 s m).tmod 10000).tdiv 100) % 10 := Int.tmod_eq_emod_of_nonneg (by omega)
      have e4 : (((sg4 s m).tmod 10000).tmod 1000).tdiv 10 = (((sg4 s m).tmod 10000).tmod 1000) / 10 := Int.tdiv_eq_ediv_of_nonneg (by omega)
      have e3 : ((((sg4 s m).tmod 10000).tmod 1000).tdiv 10).tdiv 10 = ((((sg4 s m).tmod 10000).tmod 1000).tdiv 10) / 10 := Int.tdiv_eq_ediv_of_nonneg (by omega)
      refine e_step (pc' := 112) hK rfl rfl rfl ?_
      refine e_step (pc' := 114) hK rfl rfl rfl ?_
      refine e_step (pc' := 117) hK rfl rfl rfl ?_
      refine e_idiv (pc' := 118) hK rfl (by first | omega | exact bo_i _) (by first | omega | exact bo_i _) (by first | omega | exact bo_i _) rfl ?_
      refine e_step (pc' := 120) hK rfl rfl rfl ?_
      refine e_step (pc' := 122) hK rfl rfl rfl ?_
      refine e_idiv (pc' := 123) hK rfl (by first | omega | exact bo_i _) (by first | omega | exact bo_i _) (by first | omega | exact bo_i _) rfl ?_
      refine e_step (pc' := 125) hK rfl rfl rfl ?_
      refine e_irem (pc' := 126) hK rfl (by first | omega | exact bo_i _) (by first | omega | exact bo_i _) (by first | omega | exact bo_i _) rfl ?_
      refine e_step (pc' := 128) hK rfl rfl rfl ?_
      refine e_step (pc' := 131) hK rfl rfl rfl ?_
      refine e_irem (pc' := 132) hK rfl (by first | omega | exact bo_i _) (by first | omega | exact bo_i _) (by first | omega | exact bo_i _) rfl ?_
      refine e_cQV4 (z := 178) hK rfl rfl (by first | (simp (disch := omega) only [mH_t64, mH_r1, mH_r3, mH_r4, mH_r5, mH_r6, mH_r8, mH_r9, mH_r10, mH_r11, mH_r12, mH_r14, mH_i0, mH_i2, mH_i7, mH_i13, mH_i15, mH_t71, mH_t, mH_lr, mH_l65, mH_l69, mH_l70, mH_l71, mH_l72, mH_l73, mH_l74, mH_l75, mH_c]; rfl) | (show _ = 2; assumption) | (show _ = 1; assumption) | (show _ = 0; assumption) | (show _ = 3; assumption) | (show _ = 4; assumption)) rfl (Nat.le_of_ble_eq_true rfl) (Nat.le_of_ble_eq_true rfl) (g_command hR hz (((sg4 s m).tmod 10000).tdiv 1000) (by omega) ((((sg4 s m).tmod 10000).tdiv 100).tmod 10) (((sg4 s m).tmod 10000).tmod 1000) (by omega) (by omega)) ?_
      rintro _ _ _ ⟨rfl, rfl, u, rfl, hu, hru⟩
      refine ⟨by show (0 : Nat) ≠ 4; decide, ?_⟩
      rw [if_neg (by show ¬ (0 : Nat) = 3; decide)]
      try dsimp only
      have hMu : MdA u W := hM.kq (fun b hb => hu b (by omega) (by omega) (by omega) (by omega) (by omega)) (congrFun (hu 264 (by omega) (by omega) (by omega) (by omega) (by omega)) 2) (congrFun (hu 264 (by omega) (by omega) (by omega) (by omega) (by omega)) 7)
      have hzu : u 264 0 = 0 := (congrFun (hu 264 (by omega) (by omega) (by omega) (by omega) (by omega)) 0).trans hzz
      show mv_Ev _ _ 135 _ _ _ _ _
      refine e_if (t := 141) (pc' := 138) hK rfl (by first | omega | exact bo_i _) (by decide) rfl (fun hb135 => ?_) (fun hb135 => ?_)
      · replace hb135 := cq_ne.1.mp hb135
        try simp only [bo_0, Bool.not_eq_false] at hb135
        refine e_step (pc' := 144) hK rfl rfl rfl ?_
        try simp only [List.set_cons_zero, List.set_cons_succ]
        refine e_goto (t := 86) hK rfl (by decide) ?_
        have e9 : scr s n (m + 1) D = scr s n m (gcm D (((sg4 s m).tmod 10000).tdiv 1000) (((sg4 s m).tmod 10000).tmod 1000)).2 := if_pos hb135
        exact ih (i + 1) _ u _ ⟨by omega, hru hb135, sz_gcm hz (by omega) hb135, hMu, hzu, by rw [← e9]; exact hRR⟩
      · replace hb135 := cq_ne.2.mp hb135
        try simp only [bo_0, Bool.not_eq_false] at hb135
        refine e_step (pc' := 140) hK rfl rfl rfl ?_
        refine e_ret hK rfl rfl rfl ?_
        have e9 : scr s n (m + 1) D = n - ((m + 1 : Nat) : Int) := if_neg (by rw [hb135]; decide)
        refine ⟨?_, rfl, u, rfl, hMu, hzu⟩
        rw [← hRR, e9]
        congr 1
        omega
set_option maxRecDepth 10000 in
theorem g_run1 {W : wt} (hM : MdA v W) (n s : Int) (hn : mv_i n) (hs : mv_l s) : ∀ (m : Nat) (i : Nat) (a7 : mv_V), (i + m = 4 ∧ (i = 0 ∨ (i : Int) ≤ n)) → mv_Ev sc 177 6 [(2, 264), (0, n), (1, s), (5, 0), (1, (10000 : Int) ^ i), (5, 0), (0, (i : Int)), a7] [] c (mH h v) (fun r c' h' => r = (0, (sp_run W n s).2.1) ∧ c' = c ∧ ∃ w, h' = mH h w ∧ MdA w (sp_run W n s).2.2 ∧ w 264 0 = (sp_run W n s).1) := by
  intro m
  induction m with
  | zero =>
    intro i a7 hi
    have hM0 := hM
    obtain ⟨hTx, hR, ⟨hI, bn, bT⟩, hH, hz, hSv⟩ := hM
    have r0 := hR.1
    have r1 := hR.2.1
    have hK : (mv_m 177).1 = kc_Mod_runScript := rfl
    refine e_step (pc' := 8) hK rfl rfl rfl ?_
    refine e_step (pc' := 9) hK rfl rfl rfl ?_
    refine e_icmp (t := 32) (pc' := 12) hK rfl (by first | omega | exact bo_i _ | (simp only [Bool.and_eq_true, decide_eq_true_eq] at hb42; omega) | (simp only [Bool.and_eq_false_iff, decide_eq_false_iff_not] at hb42; omega)) (by first | omega | exact bo_i _ | (simp only [Bool.and_eq_true, decide_eq_true_eq] at hb42; omega) | (simp only [Bool.and_eq_false_iff, decide_eq_false_iff_not] at hb42; omega)) (by decide) rfl (fun hb9 => ?_) (fun hb9 => ?_)
    · replace hb9 := cq_ge.1.mp hb9
      try simp only [bo_0, Bool.not_eq_false] at hb9
      have hp := p4_b i (by omega)
      have hal : 1 ≤ n → n ≤ 4 → (10000 : Int) ^ i = 10000 ^ n.toNat := fun a1 a2 => by rw [show n.toNat = i from by omega]
      refine e_step (pc' := 33) hK rfl rfl rfl ?_
      refine e_step (pc' := 34) hK rfl rfl rfl ?_
      refine e_i2l (pc' := 35) hK rfl (by first | omega | exact bo_i _ | (simp only [Bool.and_eq_true, decide_eq_true_eq] at hb42; omega) | (simp only [Bool.and_eq_false_iff, decide_eq_false_iff_not] at hb42; omega)) rfl ?_
      refine e_step (pc' := 36) hK rfl rfl rfl ?_
      show mv_Ev _ _ 36 _ ((1, (1 : Int)) :: _) _ _ _
      refine e_step (pc' := 39) hK rfl rfl rfl ?_
      refine e_cRS3 (z := 109) (pc' := 42) hK rfl rfl rfl (Nat.le_of_ble_eq_true rfl) (Nat.le_of_ble_eq_true rfl) (m_in n 1 4 (by omega) (by omega) (by omega)) (by decide) rfl ?_
      try simp (disch := omega) only [mH_t64, mH_r1, mH_r3, mH_r4, mH_r5, mH_r6, mH_r8, mH_r9, mH_r10, mH_r11, mH_r12, mH_r14, mH_i0, mH_i2, mH_i7, mH_i13, mH_i15, mH_t71, mH_t, mH_lr, mH_l65, mH_l69, mH_l70, mH_l71, mH_l72, mH_l73, mH_l74, mH_l75, mH_c]
      refine e_if (t := 61) (pc' := 45) hK rfl (by first | omega | exact bo_i _ | (simp only [Bool.and_eq_true, decide_eq_true_eq] at hb42; omega) | (simp only [Bool.and_eq_false_iff, decide_eq_false_iff_not] at hb42; omega)) (by decide) rfl (fun hb42 => ?_) (fun hb42 => ?_)
      · replace hb42 := cq_eq.1.mp hb42
        try simp only [bo_0, Bool.not_eq_false] at hb42
        exfalso; first | omega | exact absurd trivial (by assumption) | (first | omega | exact bo_i _ | (simp only [Bool.and_eq_true, decide_eq_true_eq] at hb42; omega) | (simp only [Bool.and_eq_false_iff, decide_eq_false_iff_not] at hb42; omega))
      · replace hb42 := cq_eq.2.mp hb42
        try simp only [bo_0, Bool.not_eq_false] at hb42
        simp only [Bool.and_eq_true, decide_eq_true_eq] at hb42
        refine e_step (pc' := 46) hK rfl rfl rfl ?_
        refine e_step (pc' := 47) hK rfl rfl rfl ?_
        show mv_Ev _ _ 47 _ ((1, (0 : Int)) :: _) _ _ _
        refine e_step (pc' := 49) hK rfl rfl rfl ?_
        refine e_step (pc' := 50) hK rfl rfl rfl ?_
        show mv_Ev _ _ 50 _ ((1, (1 : Int)) :: _) _ _ _
        refine e_step (pc' := 51) hK rfl rfl rfl ?_
        refine e_cRS3 (z := 109) (pc' := 54) hK rfl rfl rfl (Nat.le_of_ble_eq_true rfl) (Nat.le_of_ble_eq_true rfl) (m_in s 0 ((10000 : Int) ^ i - 1) hs (by omega) (by omega)) (by decide) rfl ?_
        try simp (disch := omega) only [mH_t64, mH_r1, mH_r3, mH_r4, mH_r5, mH_r6, mH_r8, mH_r9, mH_r10, mH_r11, mH_r12, mH_r14, mH_i0, mH_i2, mH_i7, mH_i13, mH_i15, mH_t71, mH_t, mH_lr, mH_l65, mH_l69, mH_l70, mH_l71, mH_l72, mH_l73, mH_l74, mH_l75, mH_c]
        refine e_if (t := 61) (pc' := 57) hK rfl (by first | omega | exact bo_i _ | (simp only [Bool.and_eq_true, decide_eq_true_eq] at hb42; omega) | (simp only [Bool.and_eq_false_iff, decide_eq_false_iff_not] at hb42; omega)) (by decide) rfl (fun hb54 => ?_) (fun hb54 => ?_)
        · replace hb54 := cq_eq.1.mp hb54
          try simp only [bo_0, Bool.not_eq_false] at hb54
          simp only [Bool.and_eq_false_iff, decide_eq_false_iff_not] at hb54
          refine e_step (pc' := 62) hK rfl rfl rfl ?_
          refine e_cQV2 (z := 110) hK rfl rfl (by first | (simp (disch := omega) only [mH_t64, mH_r1, mH_r3, mH_r4, mH_r5, mH_r6, mH_r8, mH_r9, mH_r10, mH_r11, mH_r12, mH_r14, mH_i0, mH_i2, mH_i7, mH_i13, mH_i15, mH_t71, mH_t, mH_lr, mH_l65, mH_l69, mH_l70, mH_l71, mH_l72, mH_l73, mH_l74, mH_l75, mH_c]; rfl) | (show _ = 2; assumption) | (show _ = 1; assumption) | (show _ = 0; assumption) | (show _ = 3; assumption) | (show _ = 4; assumption)) rfl (Nat.le_of_ble_eq_true rfl) (Nat.le_of_ble_eq_true rfl) (m_refP 1 (by omega)) ?_
          rintro _ _ _ ⟨rfl, rfl, rfl⟩
          refine ⟨by show (0 : Nat) ≠ 4; decide, ?_⟩
          rw [if_neg (by show ¬ (0 : Nat) = 3; decide)]
          try dsimp only
          have hM1 := hM0.rf 1
          obtain ⟨v1, hv1⟩ : ∃ v1, v1 = gu v 264 (mv_up (v 264) 0 1) := ⟨_, rfl⟩
          rw [← hv1] at hM1 ⊢
          have z1 : v1 264 0 = 1 := by { rw [hv1, gu_s, up_s] }
          have eo1 : ∀ b : Int, b ≠ 264 → v1 b = v b := fun b hb => by { rw [hv1]; exact gu_n hb }
          have ef1 : ∀ k : Int, k ≠ 0 → v1 264 k = v 264 k := fun k hk => by { rw [hv1, gu_s, up_n hk] }
          have hR1 := hM1.2.1
          have ra1 := hR1.1
          have rb1 := hR1.2.1
          clear hv1
          show mv_Ev _ _ 65 _ _ _ _ _
          refine e_if (t := 70) (pc' := 68) hK rfl (by first | omega | exact bo_i _ | (simp only [Bool.and_eq_true, decide_eq_true_eq] at hb42; omega) | (simp only [Bool.and_eq_false_iff, decide_eq_false_iff_not] at hb42; omega)) (by decide) rfl (fun hb65 => ?_) (fun hb65 => ?_)
          · replace hb65 := cq_eq.1.mp hb65
            try simp only [bo_0, Bool.not_eq_false] at hb65
            exfalso; first | omega | exact absurd trivial (by assumption) | (first | omega | exact bo_i _ | (simp only [Bool.and_eq_true, decide_eq_true_eq] at hb42; omega) | (simp only [Bool.and_eq_false_iff, decide_eq_false_iff_not] at hb42; omega))
          · replace hb65 := cq_eq.2.mp hb65
            try simp only [bo_0, Bool.not_eq_false] at hb65
            refine e_step (pc' := 69) hK rfl rfl rfl ?_
            refine e_ret hK rfl rfl rfl ?_
            have e9 : sp_run W n s = (1, 0, W) := by { unfold sp_run; rw [if_neg (fun q => by { have := (sg4_z q.2.1 (by omega)).mp q.2.2; rw [hal (by omega) (by omega)] at hb54; omega })] }
            rw [e9]
            exact ⟨rfl, rfl, v1, rfl, hM1, z1⟩
        · replace hb54 := cq_eq.2.mp hb54
          try simp only [bo_0, Bool.not_eq_false] at hb54
          simp only [Bool.and_eq_true, decide_eq_true_eq] at hb54
          refine e_step (pc' := 58) hK rfl rfl rfl ?_
          refine e_goto (t := 62) hK rfl (by decide) ?_
          refine e_cQV2 (z := 110) hK rfl rfl (by first | (simp (disch := omega) only [mH_t64, mH_r1, mH_r3, mH_r4, mH_r5, mH_r6, mH_r8, mH_r9, mH_r10, mH_r11, mH_r12, mH_r14, mH_i0, mH_i2, mH_i7, mH_i13, mH_i15, mH_t71, mH_t, mH_lr, mH_l65, mH_l69, mH_l70, mH_l71, mH_l72, mH_l73, mH_l74, mH_l75, mH_c]; rfl) | (show _ = 2; assumption) | (show _ = 1; assumption) | (show _ = 0; assumption) | (show _ = 3; assumption) | (show _ = 4; assumption)) rfl (Nat.le_of_ble_eq_true rfl) (Nat.le_of_ble_eq_true rfl) (m_ref0) ?_
          rintro _ _ _ ⟨rfl, rfl, rfl⟩
          refine ⟨by show (0 : Nat) ≠ 4; decide, ?_⟩
          rw [if_neg (by show ¬ (0 : Nat) = 3; decide)]
          try dsimp only
          have hM1 := hM0.rf 0
          obtain ⟨v1, hv1⟩ : ∃ v1, v1 = gu v 264 (mv_up (v 264) 0 0) := ⟨_, rfl⟩
          rw [← hv1] at hM1 ⊢
          have z1 : v1 264 0 = 0 := by { rw [hv1, gu_s, up_s] }
          have eo1 : ∀ b : Int, b ≠ 264 → v1 b = v b := fun b hb => by { rw [hv1]; exact gu_n hb }
          have ef1 : ∀ k : Int, k ≠ 0 → v1 264 k = v 264 k := fun k hk => by { rw [hv1, gu_s, up_n hk] }
          have hR1 := hM1.2.1
          have ra1 := hR1.1
          have rb1 := hR1.2.1
          clear hv1
          show mv_Ev _ _ 65 _ _ _ _ _
          refine e_if (t := 70) (pc' := 68) hK rfl (by first | omega | exact bo_i _ | (simp only [Bool.and_eq_true, decide_eq_true_eq] at hb42; omega) | (simp only [Bool.and_eq_false_iff, decide_eq_false_iff_not] at hb42; omega)) (by decide) rfl (fun hb65 => ?_) (fun hb65 => ?_)
          · replace hb65 := cq_eq.1.mp hb65
            try simp only [bo_0, Bool.not_eq_false] at hb65
            refine e_step (pc' := 71) hK rfl rfl rfl ?_
            refine e_getR (ci := 4) (k := 3) (pc' := 74) hK rfl (by simp (disch := omega) only [mH_t64, mH_r1, mH_r3, mH_r4, mH_r5, mH_r6, mH_r8, mH_r9, mH_r10, mH_r11, mH_r12, mH_r14, mH_i0, mH_i2, mH_i7, mH_i13, mH_i15, mH_t71, mH_t, mH_lr, mH_l65, mH_l69, mH_l70, mH_l71, mH_l72, mH_l73, mH_l74, mH_l75, mH_c, ra1, rb1]) rfl rfl (by decide) (by decide) (by (try simp (disch := omega) only [mH_t64, mH_r1, mH_r3, mH_r4, mH_r5, mH_r6, mH_r8, mH_r9, mH_r10, mH_r11, mH_r12, mH_r14, mH_i0, mH_i2, mH_i7, mH_i13, mH_i15, mH_t71, mH_t, mH_lr, mH_l65, mH_l69, mH_l70, mH_l71, mH_l72, mH_l73, mH_l74, mH_l75, mH_c, ra1, rb1]); first | omega | exact bo_i _ | (simp only [Bool.and_eq_true, decide_eq_true_eq] at hb42; omega) | (simp only [Bool.and_eq_false_iff, decide_eq_false_iff_not] at hb42; omega)) rfl ?_
            try simp (disch := omega) only [mH_t64, mH_r1, mH_r3, mH_r4, mH_r5, mH_r6, mH_r8, mH_r9, mH_r10, mH_r11, mH_r12, mH_r14, mH_i0, mH_i2, mH_i7, mH_i13, mH_i15, mH_t71, mH_t, mH_lr, mH_l65, mH_l69, mH_l70, mH_l71, mH_l72, mH_l73, mH_l74, mH_l75, mH_c, ra1, rb1]
            refine e_step (pc' := 75) hK rfl rfl rfl ?_
            refine e_step (pc' := 76) hK rfl rfl rfl ?_
            refine e_getR (ci := 4) (k := 4) (pc' := 79) hK rfl (by simp (disch := omega) only [mH_t64, mH_r1, mH_r3, mH_r4, mH_r5, mH_r6, mH_r8, mH_r9, mH_r10, mH_r11, mH_r12, mH_r14, mH_i0, mH_i2, mH_i7, mH_i13, mH_i15, mH_t71, mH_t, mH_lr, mH_l65, mH_l69, mH_l70, mH_l71, mH_l72, mH_l73, mH_l74, mH_l75, mH_c, ra1, rb1]) rfl rfl (by decide) (by decide) (by (try simp (disch := omega) only [mH_t64, mH_r1, mH_r3, mH_r4, mH_r5, mH_r6, mH_r8, mH_r9, mH_r10, mH_r11, mH_r12, mH_r14, mH_i0, mH_i2, mH_i7, mH_i13, mH_i15, mH_t71, mH_t, mH_lr, mH_l65, mH_l69, mH_l70, mH_l71, mH_l72, mH_l73, mH_l74, mH_l75, mH_c, ra1, rb1]); first | omega | exact bo_i _ | (simp only [Bool.and_eq_true, decide_eq_true_eq] at hb42; omega) | (simp only [Bool.and_eq_false_iff, decide_eq_false_iff_not] at hb42; omega)) rfl ?_
            try simp (disch := omega) only [mH_t64, mH_r1, mH_r3, mH_r4, mH_r5, mH_r6, mH_r8, mH_r9, mH_r10, mH_r11, mH_r12, mH_r14, mH_i0, mH_i2, mH_i7, mH_i13, mH_i15, mH_t71, mH_t, mH_lr, mH_l65, mH_l69, mH_l70, mH_l71, mH_l72, mH_l73, mH_l74, mH_l75, mH_c, ra1, rb1]
            refine e_step (pc' := 80) hK rfl rfl rfl ?_
            refine e_cQS4 (z := 151) hK rfl rfl rfl (Nat.le_of_ble_eq_true rfl) (Nat.le_of_ble_eq_true rfl) (m_copyLog 266 0 267 0 (by omega) (by omega) (by omega) (by omega) (by omega) (by show (0 : Int) + 1221 ≤ 1221 ∧ (1221 : Int) ≤ 20000; omega) (by show (0 : Int) + 1221 ≤ 1221 ∧ (1221 : Int) ≤ 20000; omega)) ?_
            rintro _ _ _ ⟨rfl, rfl, y, rfl, hy, ry⟩
            refine ⟨by decide, ?_⟩
            rw [if_pos rfl]
            try dsimp only
            have hRt : Rw (y 267) (wA W) := Rw_ext hR1 hI (fun q q0 q1 => by { rw [ry q, if_pos (by omega)]; exact congrArg (v1 266) (by omega) })
            have hMy : MdA y W := hM1.kq (fun b hb => hy b (by omega)) (congrFun (hy 264 (by omega)) 2) (congrFun (hy 264 (by omega)) 7)
            have zy : y 264 0 = 0 := (congrFun (hy 264 (by omega)) 0).trans z1
            show mv_Ev _ _ 83 _ _ _ _ _
            refine e_step (pc' := 84) hK rfl rfl rfl ?_
            refine e_step (pc' := 86) hK rfl rfl rfl ?_
            try simp only [List.set_cons_zero, List.set_cons_succ]
            have e9 : sp_run W n s = (0, scr s n n.toNat (wA W), W) := by { unfold sp_run; rw [if_pos ⟨⟨by omega, by omega⟩, by omega, (sg4_z (by omega) (by omega)).mpr (by rw [← hal (by omega) (by omega)]; omega)⟩] }
            rw [e9, hal (by omega) (by omega)]
            exact g_runL hMy zy n s (by omega) (by omega) hs _ n.toNat 0 (wA W) y _ ⟨by omega, hRt, ⟨hI, bn, bT⟩, hMy, zy, rfl⟩
          · replace hb65 := cq_eq.2.mp hb65
            try simp only [bo_0, Bool.not_eq_false] at hb65
            exfalso; first | omega | exact absurd trivial (by assumption) | (first | omega | exact bo_i _ | (simp only [Bool.and_eq_true, decide_eq_true_eq] at hb42; omega) | (simp only [Bool.and_eq_false_iff, decide_eq_false_iff_not] at hb42; omega))
    · replace hb9 := cq_ge.2.mp hb9
      try simp only [bo_0, Bool.not_eq_false] at hb9
      refine e_step (pc' := 14) hK rfl rfl rfl ?_
      refine e_step (pc' := 15) hK rfl rfl rfl ?_
      refine e_icmp (t := 32) (pc' := 18) hK rfl (by first | omega | exact bo_i _ | (simp only [Bool.and_eq_true, decide_eq_true_eq] at hb42; omega) | (simp only [Bool.and_eq_false_iff, decide_eq_false_iff_not] at hb42; omega)) (by first | omega | exact bo_i _ | (simp only [Bool.and_eq_true, decide_eq_true_eq] at hb42; omega) | (simp only [Bool.and_eq_false_iff, decide_eq_false_iff_not] at hb42; omega)) (by decide) rfl (fun hb15 => ?_) (fun hb15 => ?_)
      · replace hb15 := cq_ge.1.mp hb15
        try simp only [bo_0, Bool.not_eq_false] at hb15
        have hp := p4_b i (by omega)
        have hal : 1 ≤ n → n ≤ 4 → (10000 : Int) ^ i = 10000 ^ n.toNat := fun a1 a2 => by rw [show n.toNat = i from by omega]
        refine e_step (pc' := 33) hK rfl rfl rfl ?_
        refine e_step (pc' := 34) hK rfl rfl rfl ?_
        refine e_i2l (pc' := 35) hK rfl (by first | omega | exact bo_i _ | (simp only [Bool.and_eq_true, decide_eq_true_eq] at hb42; omega) | (simp only [Bool.and_eq_false_iff, decide_eq_false_iff_not] at hb42; omega)) rfl ?_
        refine e_step (pc' := 36) hK rfl rfl rfl ?_
        show mv_Ev _ _ 36 _ ((1, (1 : Int)) :: _) _ _ _
        refine e_step (pc' := 39) hK rfl rfl rfl ?_
        refine e_cRS3 (z := 109) (pc' := 42) hK rfl rfl rfl (Nat.le_of_ble_eq_true rfl) (Nat.le_of_ble_eq_true rfl) (m_in n 1 4 (by omega) (by omega) (by omega)) (by decide) rfl ?_
        try simp (disch := omega) only [mH_t64, mH_r1, mH_r3, mH_r4, mH_r5, mH_r6, mH_r8, mH_r9, mH_r10, mH_r11, mH_r12, mH_r14, mH_i0, mH_i2, mH_i7, mH_i13, mH_i15, mH_t71, mH_t, mH_lr, mH_l65, mH_l69, mH_l70, mH_l71, mH_l72, mH_l73, mH_l74, mH_l75, mH_c]
        refine e_if (t := 61) (pc' := 45) hK rfl (by first | omega | exact bo_i _ | (simp only [Bool.and_eq_true, decide_eq_true_eq] at hb42; omega) | (simp only [Bool.and_eq_false_iff, decide_eq_false_iff_not] at hb42; omega)) (by decide) rfl (fun hb42 => ?_) (fun hb42 => ?_)
        · replace hb42 := cq_eq.1.mp hb42
          try simp only [bo_0, Bool.not_eq_false] at hb42
          simp only [Bool.and_eq_false_iff, decide_eq_false_iff_not] at hb42
          refine e_step (pc' := 62) hK rfl rfl rfl ?_
          refine e_cQV2 (z := 110) hK rfl rfl (by first | (simp (disch := omega) only [mH_t64, mH_r1, mH_r3, mH_r4, mH_r5, mH_r6, mH_r8, mH_r9, mH_r10, mH_r11, mH_r12, mH_r14, mH_i0, mH_i2, mH_i7, mH_i13, mH_i15, mH_t71, mH_t, mH_lr, mH_l65, mH_l69, mH_l70, mH_l71, mH_l72, mH_l73, mH_l74, mH_l75, mH_c]; rfl) | (show _ = 2; assumption) | (show _ = 1; assumption) | (show _ = 0; assumption) | (show _ = 3; assumption) | (show _ = 4; assumption)) rfl (Nat.le_of_ble_eq_true rfl) (Nat.le_of_ble_eq_true rfl) (m_refP 1 (by omega)) ?_
          rintro _ _ _ ⟨rfl, rfl, rfl⟩
          refine ⟨by show (0 : Nat) ≠ 4; decide, ?_⟩
          rw [if_neg (by show ¬ (0 : Nat) = 3; decide)]
          try dsimp only
          have hM1 := hM0.rf 1
          obtain ⟨v1, hv1⟩ : ∃ v1, v1 = gu v 264 (mv_up (v 264) 0 1) := ⟨_, rfl⟩
          rw [← hv1] at hM1 ⊢
          have z1 : v1 264 0 = 1 := by { rw [hv1, gu_s, up_s] }
          have eo1 : ∀ b : Int, b ≠ 264 → v1 b = v b := fun b hb => by { rw [hv1]; exact gu_n hb }
          have ef1 : ∀ k : Int, k ≠ 0 → v1 264 k = v 264 k := fun k hk => by { rw [hv1, gu_s, up_n hk] }
          have hR1 := hM1.2.1
          have ra1 := hR1.1
          have rb1 := hR1.2.1
          clear hv1
          show mv_Ev _ _ 65 _ _ _ _ _
          refine e_if (t := 70) (pc' := 68) hK rfl (by first | omega | exact bo_i _ | (simp only [Bool.and_eq_true, decide_eq_true_eq] at hb42; omega) | (simp only [Bool.and_eq_false_iff, decide_eq_false_iff_not] at hb42; omega)) (by decide) rfl (fun hb65 => ?_) (fun hb65 => ?_)
          · replace hb65 := cq_eq.1.mp hb65
            try simp only [bo_0, Bool.not_eq_false] at hb65
            exfalso; first | omega | exact absurd trivial (by assumption) | (first | omega | exact bo_i _ | (simp only [Bool.and_eq_true, decide_eq_true_eq] at hb42; omega) | (simp only [Bool.and_eq_false_iff, decide_eq_false_iff_not] at hb42; omega))
          · replace hb65 := cq_eq.2.mp hb65
            try simp only [bo_0, Bool.not_eq_false] at hb65
            refine e_step (pc' := 69) hK rfl rfl rfl ?_
            refine e_ret hK rfl rfl rfl ?_
            have e9 : sp_run W n s = (1, 0, W) := by { unfold sp_run; rw [if_neg (fun q => by omega)] }
            rw [e9]
            exact ⟨rfl, rfl, v1, rfl, hM1, z1⟩
        · replace hb42 := cq_eq.2.mp hb42
          try simp only [bo_0, Bool.not_eq_false] at hb42
          exfalso; first | omega | exact absurd trivial (by assumption) | (first | omega | exact bo_i _ | (simp only [Bool.and_eq_true, decide_eq_true_eq] at hb42; omega) | (simp only [Bool.and_eq_false_iff, decide_eq_false_iff_not] at hb42; omega))
      · replace hb15 := cq_ge.2.mp hb15
        try simp only [bo_0, Bool.not_eq_false] at hb15
        exfalso; first | omega | exact absurd trivial (by assumption) | (first | omega | exact bo_i _ | (simp only [Bool.and_eq_true, decide_eq_true_eq] at hb42; omega) | (simp only [Bool.and_eq_false_iff, decide_eq_false_iff_not] at hb42; omega))
  | succ m ih =>
    intro i a7 hi
    have hM0 := hM
    obtain ⟨hTx, hR, ⟨hI, bn, bT⟩, hH, hz, hSv⟩ := hM
    have r0 := hR.1
    have r1 := hR.2.1
    have hK : (mv_m 177).1 = kc_Mod_runScript := rfl
    refine e_step (pc' := 8) hK rfl rfl rfl ?_
    refine e_step (pc' := 9) hK rfl rfl rfl ?_
    refine e_icmp (t := 32) (pc' := 12) hK rfl (by first | omega | exact bo_i _ | (simp only [Bool.and_eq_true, decide_eq_true_eq] at hb42; omega) | (simp only [Bool.and_eq_false_iff, decide_eq_false_iff_not] at hb42; omega)) (by first | omega | exact bo_i _ | (simp only [Bool.and_eq_true, decide_eq_true_eq] at hb42; omega) | (simp only [Bool.and_eq_false_iff, decide_eq_false_iff_not] at hb42; omega)) (by decide) rfl (fun hb9 => ?_) (fun hb9 => ?_)
    · replace hb9 := cq_ge.1.mp hb9
      try simp only [bo_0, Bool.not_eq_false] at hb9
      have hp := p4_b i (by omega)
      have hal : 1 ≤ n → n ≤ 4 → (10000 : Int) ^ i = 10000 ^ n.toNat := fun a1 a2 => by rw [show n.toNat = i from by omega]
      refine e_step (pc' := 33) hK rfl rfl rfl ?_
      refine e_step (pc' := 34) hK rfl rfl rfl ?_
      refine e_i2l (pc' := 35) hK rfl (by first | omega | exact bo_i _ | (simp only [Bool.and_eq_true, decide_eq_true_eq] at hb42; omega) | (simp only [Bool.and_eq_false_iff, decide_eq_false_iff_not] at hb42; omega)) rfl ?_
      refine e_step (pc' := 36) hK rfl rfl rfl ?_
      show mv_Ev _ _ 36 _ ((1, (1 : Int)) :: _) _ _ _
      refine e_step (pc' := 39) hK rfl rfl rfl ?_
      refine e_cRS3 (z := 109) (pc' := 42) hK rfl rfl rfl (Nat.le_of_ble_eq_true rfl) (Nat.le_of_ble_eq_true rfl) (m_in n 1 4 (by omega) (by omega) (by omega)) (by decide) rfl ?_
      try simp (disch := omega) only [mH_t64, mH_r1, mH_r3, mH_r4, mH_r5, mH_r6, mH_r8, mH_r9, mH_r10, mH_r11, mH_r12, mH_r14, mH_i0, mH_i2, mH_i7, mH_i13, mH_i15, mH_t71, mH_t, mH_lr, mH_l65, mH_l69, mH_l70, mH_l71, mH_l72, mH_l73, mH_l74, mH_l75, mH_c]
      refine e_if (t := 61) (pc' := 45) hK rfl (by first | omega | exact bo_i _ | (simp only [Bool.and_eq_true, decide_eq_true_eq] at hb42; omega) | (simp only [Bool.and_eq_false_iff, decide_eq_false_iff_not] at hb42; omega)) (by decide) rfl (fun hb42 => ?_) (fun hb42 => ?_)
      · replace hb42 := cq_eq.1.mp hb42
        try simp only [bo_0, Bool.not_eq_false] at hb42
        simp only [Bool.and_eq_false_iff, decide_eq_false_iff_not] at hb42
        refine e_step (pc' := 62) hK rfl rfl rfl ?_
        refine e_cQV2 (z := 110) hK rfl rfl (by first | (simp (disch := omega) only [mH_t64, mH_r1, mH_r3, mH_r4, mH_r5, mH_r6, mH_r8, mH_r9, mH_r10, mH_r11, mH_r12, mH_r14, mH_i0, mH_i2, mH_i7, mH_i13, mH_i15, mH_t71, mH_t, mH_lr, mH_l65, mH_l69, mH_l70, mH_l71, mH_l72, mH_l73, mH_l74, mH_l75, mH_c]; rfl) | (show _ = 2; assumption) | (show _ = 1; assumption) | (show _ = 0; assumption) | (show _ = 3; assumption) | (show _ = 4; assumption)) rfl (Nat.le_of_ble_eq_true rfl) (Nat.le_of_ble_eq_true rfl) (m_refP 1 (by omega)) ?_
        rintro _ _ _ ⟨rfl, rfl, rfl⟩
        refine ⟨by show (0 : Nat) ≠ 4; decide, ?_⟩
        rw [if_neg (by show ¬ (0 : Nat) = 3; decide)]
        try dsimp only
        have hM1 := hM0.rf 1
        obtain ⟨v1, hv1⟩ : ∃ v1, v1 = gu v 264 (mv_up (v 264) 0 1) := ⟨_, rfl⟩
        rw [← hv1] at hM1 ⊢
        have z1 : v1 264 0 = 1 := by { rw [hv1, gu_s, up_s] }
        have eo1 : ∀ b : Int, b ≠ 264 → v1 b = v b := fun b hb => by { rw [hv1]; exact gu_n hb }
        have ef1 : ∀ k : Int, k ≠ 0 → v1 264 k = v 264 k := fun k hk => by { rw [hv1, gu_s, up_n hk] }
        have hR1 := hM1.2.1
        have ra1 := hR1.1
        have rb1 := hR1.2.1
        clear hv1
        show mv_Ev _ _ 65 _ _ _ _ _
        refine e_if (t := 70) (pc' := 68) hK rfl (by first | omega | exact bo_i _ | (simp only [Bool.and_eq_true, decide_eq_true_eq] at hb42; omega) | (simp only [Bool.and_eq_false_iff, decide_eq_false_iff_not] at hb42; omega)) (by decide) rfl (fun hb65 => ?_) (fun hb65 => ?_)
        · replace hb65 := cq_eq.1.mp hb65
          try simp only [bo_0, Bool.not_eq_false] at hb65
          exfalso; first | omega | exact absurd trivial (by assumption) | (first | omega | exact bo_i _ | (simp only [Bool.and_eq_true, decide_eq_true_eq] at hb42; omega) | (simp only [Bool.and_eq_false_iff, decide_eq_false_iff_not] at hb42; omega))
        · replace hb65 := cq_eq.2.mp hb65
          try simp only [bo_0, Bool.not_eq_false] at hb65
          refine e_step (pc' := 69) hK rfl rfl rfl ?_
          refine e_ret hK rfl rfl rfl ?_
          have e9 : sp_run W n s = (1, 0, W) := by { unfold sp_run; rw [if_neg (fun q => by omega)] }
          rw [e9]
          exact ⟨rfl, rfl, v1, rfl, hM1, z1⟩
      · replace hb42 := cq_eq.2.mp hb42
        try simp only [bo_0, Bool.not_eq_false] at hb42
        simp only [Bool.and_eq_true, decide_eq_true_eq] at hb42
        refine e_step (pc' := 46) hK rfl rfl rfl ?_
        refine e_step (pc' := 47) hK rfl rfl rfl ?_
        show mv_Ev _ _ 47 _ ((1, (0 : Int)) :: _) _ _ _
        refine e_step (pc' := 49) hK rfl rfl rfl ?_
        refine e_step (pc' := 50) hK rfl rfl rfl ?_
        show mv_Ev _ _ 50 _ ((1, (1 : Int)) :: _) _ _ _
        refine e_step (pc' := 51) hK rfl rfl rfl ?_
        refine e_cRS3 (z := 109) (pc' := 54) hK rfl rfl rfl (Nat.le_of_ble_eq_true rfl) (Nat.le_of_ble_eq_true rfl) (m_in s 0 ((10000 : Int) ^ i - 1) hs (by omega) (by omega)) (by decide) rfl ?_
        try simp (disch := omega) only [mH_t64, mH_r1, mH_r3, mH_r4, mH_r5, mH_r6, mH_r8, mH_r9, mH_r10, mH_r11, mH_r12, mH_r14, mH_i0, mH_i2, mH_i7, mH_i13, mH_i15, mH_t71, mH_t, mH_lr, mH_l65, mH_l69, mH_l70, mH_l71, mH_l72, mH_l73, mH_l74, mH_l75, mH_c]
        refine e_if (t := 61) (pc' := 57) hK rfl (by first | omega | exact bo_i _ | (simp only [Bool.and_eq_true, decide_eq_true_eq] at hb42; omega) | (simp only [Bool.and_eq_false_iff, decide_eq_false_iff_not] at hb42; omega)) (by decide) rfl (fun hb54 => ?_) (fun hb54 => ?_)
        · replace hb54 := cq_eq.1.mp hb54
          try simp only [bo_0, Bool.not_eq_false] at hb54
          simp only [Bool.and_eq_false_iff, decide_eq_false_iff_not] at hb54
          refine e_step (pc' := 62) hK rfl rfl rfl ?_
          refine e_cQV2 (z := 110) hK rfl rfl (by first | (simp (disch := omega) only [mH_t64, mH_r1, mH_r3, mH_r4, mH_r5, mH_r6, mH_r8, mH_r9, mH_r10, mH_r11, mH_r12, mH_r14, mH_i0, mH_i2, mH_i7, mH_i13, mH_i15, mH_t71, mH_t, mH_lr, mH_l65, mH_l69, mH_l70, mH_l71, mH_l72, mH_l73, mH_l74, mH_l75, mH_c]; rfl) | (show _ = 2; assumption) | (show _ = 1; assumption) | (show _ = 0; assumption) | (show _ = 3; assumption) | (show _ = 4; assumption)) rfl (Nat.le_of_ble_eq_true rfl) (Nat.le_of_ble_eq_true rfl) (m_refP 1 (by omega)) ?_
          rintro _ _ _ ⟨rfl, rfl, rfl⟩
          refine ⟨by show (0 : Nat) ≠ 4; decide, ?_⟩
          rw [if_neg (by show ¬ (0 : Nat) = 3; decide)]
          try dsimp only
          have hM1 := hM0.rf 1
          obtain ⟨v1, hv1⟩ : ∃ v1, v1 = gu v 264 (mv_up (v 264) 0 1) := ⟨_, rfl⟩
          rw [← hv1] at hM1 ⊢
          have z1 : v1 264 0 = 1 := by { rw [hv1, gu_s, up_s] }
          have eo1 : ∀ b : Int, b ≠ 264 → v1 b = v b := fun b hb => by { rw [hv1]; exact gu_n hb }
          have ef1 : ∀ k : Int, k ≠ 0 → v1 264 k = v 264 k := fun k hk => by { rw [hv1, gu_s, up_n hk] }
          have hR1 := hM1.2.1
          have ra1 := hR1.1
          have rb1 := hR1.2.1
          clear hv1
          show mv_Ev _ _ 65 _ _ _ _ _
          refine e_if (t := 70) (pc' := 68) hK rfl (by first | omega | exact bo_i _ | (simp only [Bool.and_eq_true, decide_eq_true_eq] at hb42; omega) | (simp only [Bool.and_eq_false_iff, decide_eq_false_iff_not] at hb42; omega)) (by decide) rfl (fun hb65 => ?_) (fun hb65 => ?_)
          · replace hb65 := cq_eq.1.mp hb65
            try simp only [bo_0, Bool.not_eq_false] at hb65
            exfalso; first | omega | exact absurd trivial (by assumption) | (first | omega | exact bo_i _ | (simp only [Bool.and_eq_true, decide_eq_true_eq] at hb42; omega) | (simp only [Bool.and_eq_false_iff, decide_eq_false_iff_not] at hb42; omega))
          · replace hb65 := cq_eq.2.mp hb65
            try simp only [bo_0, Bool.not_eq_false] at hb65
            refine e_step (pc' := 69) hK rfl rfl rfl ?_
            refine e_ret hK rfl rfl rfl ?_
            have e9 : sp_run W n s = (1, 0, W) := by { unfold sp_run; rw [if_neg (fun q => by { have := (sg4_z q.2.1 (by omega)).mp q.2.2; rw [hal (by omega) (by omega)] at hb54; omega })] }
            rw [e9]
            exact ⟨rfl, rfl, v1, rfl, hM1, z1⟩
        · replace hb54 := cq_eq.2.mp hb54
          try simp only [bo_0, Bool.not_eq_false] at hb54
          simp only [Bool.and_eq_true, decide_eq_true_eq] at hb54
          refine e_step (pc' := 58) hK rfl rfl rfl ?_
          refine e_goto (t := 62) hK rfl (by decide) ?_
          refine e_cQV2 (z := 110) hK rfl rfl (by first | (simp (disch := omega) only [mH_t64, mH_r1, mH_r3, mH_r4, mH_r5, mH_r6, mH_r8, mH_r9, mH_r10, mH_r11, mH_r12, mH_r14, mH_i0, mH_i2, mH_i7, mH_i13, mH_i15, mH_t71, mH_t, mH_lr, mH_l65, mH_l69, mH_l70, mH_l71, mH_l72, mH_l73, mH_l74, mH_l75, mH_c]; rfl) | (show _ = 2; assumption) | (show _ = 1; assumption) | (show _ = 0; assumption) | (show _ = 3; assumption) | (show _ = 4; assumption)) rfl (Nat.le_of_ble_eq_true rfl) (Nat.le_of_ble_eq_true rfl) (m_ref0) ?_
          rintro _ _ _ ⟨rfl, rfl, rfl⟩
          refine ⟨by show (0 : Nat) ≠ 4; decide, ?_⟩
          rw [if_neg (by show ¬ (0 : Nat) = 3; decide)]
          try dsimp only
          have hM1 := hM0.rf 0
          obtain ⟨v1, hv1⟩ : ∃ v1, v1 = gu v 264 (mv_up (v 264) 0 0) := ⟨_, rfl⟩
          rw [← hv1] at hM1 ⊢
          have z1 : v1 264 0 = 0 := by { rw [hv1, gu_s, up_s] }
          have eo1 : ∀ b : Int, b ≠ 264 → v1 b = v b := fun b hb => by { rw [hv1]; exact gu_n hb }
          have ef1 : ∀ k : Int, k ≠ 0 → v1 264 k = v 264 k := fun k hk => by { rw [hv1, gu_s, up_n hk] }
          have hR1 := hM1.2.1
          have ra1 := hR1.1
          have rb1 := hR1.2.1
          clear hv1
          show mv_Ev _ _ 65 _ _ _ _ _
          refine e_if (t := 70) (pc' := 68) hK rfl (by first | omega | exact bo_i _ | (simp only [Bool.and_eq_true, decide_eq_true_eq] at hb42; omega) | (simp only [Bool.and_eq_false_iff, decide_eq_false_iff_not] at hb42; omega)) (by decide) rfl (fun hb65 => ?_) (fun hb65 => ?_)
          · replace hb65 := cq_eq.1.mp hb65
            try simp only [bo_0, Bool.not_eq_false] at hb65
            refine e_step (pc' := 71) hK rfl rfl rfl ?_
            refine e_getR (ci := 4) (k := 3) (pc' := 74) hK rfl (by simp (disch := omega) only [mH_t64, mH_r1, mH_r3, mH_r4, mH_r5, mH_r6, mH_r8, mH_r9, mH_r10, mH_r11, mH_r12, mH_r14, mH_i0, mH_i2, mH_i7, mH_i13, mH_i15, mH_t71, mH_t, mH_lr, mH_l65, mH_l69, mH_l70, mH_l71, mH_l72, mH_l73, mH_l74, mH_l75, mH_c, ra1, rb1]) rfl rfl (by decide) (by decide) (by (try simp (disch := omega) only [mH_t64, mH_r1, mH_r3, mH_r4, mH_r5, mH_r6, mH_r8, mH_r9, mH_r10, mH_r11, mH_r12, mH_r14, mH_i0, mH_i2, mH_i7, mH_i13, mH_i15, mH_t71, mH_t, mH_lr, mH_l65, mH_l69, mH_l70, mH_l71, mH_l72, mH_l73, mH_l74, mH_l75, mH_c, ra1, rb1]); first | omega | exact bo_i _ | (simp only [Bool.and_eq_true, decide_eq_true_eq] at hb42; omega) | (simp only [Bool.and_eq_false_iff, decide_eq_false_iff_not] at hb42; omega)) rfl ?_
            try simp (disch := omega) only [mH_t64, mH_r1, mH_r3, mH_r4, mH_r5, mH_r6, mH_r8, mH_r9, mH_r10, mH_r11, mH_r12, mH_r14, mH_i0, mH_i2, mH_i7, mH_i13, mH_i15, mH_t71, mH_t, mH_lr, mH_l65, mH_l69, mH_l70, mH_l71, mH_l72, mH_l73, mH_l74, mH_l75, mH_c, ra1, rb1]
            refine e_step (pc' := 75) hK rfl rfl rfl ?_
            refine e_step (pc' := 76) hK rfl rfl rfl ?_
            refine e_getR (ci := 4) (k := 4) (pc' := 79) hK rfl (by simp (disch := omega) only [mH_t64, mH_r1, mH_r3, mH_r4, mH_r5, mH_r6, mH_r8, mH_r9, mH_r10, mH_r11, mH_r12, mH_r14, mH_i0, mH_i2, mH_i7, mH_i13, mH_i15, mH_t71, mH_t, mH_lr, mH_l65, mH_l69, mH_l70, mH_l71, mH_l72, mH_l73, mH_l74, mH_l75, mH_c, ra1, rb1]) rfl rfl (by decide) (by decide) (by (try simp (disch := omega) only [mH_t64, mH_r1, mH_r3, mH_r4, mH_r5, mH_r6, mH_r8, mH_r9, mH_r10, mH_r11, mH_r12, mH_r14, mH_i0, mH_i2, mH_i7, mH_i13, mH_i15, mH_t71, mH_t, mH_lr, mH_l65, mH_l69, mH_l70, mH_l71, mH_l72, mH_l73, mH_l74, mH_l75, mH_c, ra1, rb1]); first | omega | exact bo_i _ | (simp only [Bool.and_eq_true, decide_eq_true_eq] at hb42; omega) | (simp only [Bool.and_eq_false_iff, decide_eq_false_iff_not] at hb42; omega)) rfl ?_
            try simp (disch := omega) only [mH_t64, mH_r1, mH_r3, mH_r4, mH_r5, mH_r6, mH_r8, mH_r9, mH_r10, mH_r11, mH_r12, mH_r14, mH_i0, mH_i2, mH_i7, mH_i13, mH_i15, mH_t71, mH_t, mH_lr, mH_l65, mH_l69, mH_l70, mH_l71, mH_l72, mH_l73, mH_l74, mH_l75, mH_c, ra1, rb1]
            refine e_step (pc' := 80) hK rfl rfl rfl ?_
            refine e_cQS4 (z := 151) hK rfl rfl rfl (Nat.le_of_ble_eq_true rfl) (Nat.le_of_ble_eq_true rfl) (m_copyLog 266 0 267 0 (by omega) (by omega) (by omega) (by omega) (by omega) (by show (0 : Int) + 1221 ≤ 1221 ∧ (1221 : Int) ≤ 20000; omega) (by show (0 : Int) + 1221 ≤ 1221 ∧ (1221 : Int) ≤ 20000; omega)) ?_
            rintro _ _ _ ⟨rfl, rfl, y, rfl, hy, ry⟩
            refine ⟨by decide, ?_⟩
            rw [if_pos rfl]
            try dsimp only
            have hRt : Rw (y 267) (wA W) := Rw_ext hR1 hI (fun q q0 q1 => by { rw [ry q, if_pos (by omega)]; exact congrArg (v1 266) (by omega) })
            have hMy : MdA y W := hM1.kq (fun b hb => hy b (by omega)) (congrFun (hy 264 (by omega)) 2) (congrFun (hy 264 (by omega)) 7)
            have zy : y 264 0 = 0 := (congrFun (hy 264 (by omega)) 0).trans z1
            show mv_Ev _ _ 83 _ _ _ _ _
            refine e_step (pc' := 84) hK rfl rfl rfl ?_
            refine e_step (pc' := 86) hK rfl rfl rfl ?_
            try simp only [List.set_cons_zero, List.set_cons_succ]
            have e9 : sp_run W n s = (0, scr s n n.toNat (wA W), W) := by { unfold sp_run; rw [if_pos ⟨⟨by omega, by omega⟩, by omega, (sg4_z (by omega) (by omega)).mpr (by rw [← hal (by omega) (by omega)]; omega)⟩] }
            rw [e9, hal (by omega) (by omega)]
            exact g_runL hMy zy n s (by omega) (by omega) hs _ n.toNat 0 (wA W) y _ ⟨by omega, hRt, ⟨hI, bn, bT⟩, hMy, zy, rfl⟩
          · replace hb65 := cq_eq.2.mp hb65
            try simp only [bo_0, Bool.not_eq_false] at hb65
            exfalso; first | omega | exact absurd trivial (by assumption) | (first | omega | exact bo_i _ | (simp only [Bool.and_eq_true, decide_eq_true_eq] at hb42; omega) | (simp only [Bool.and_eq_false_iff, decide_eq_false_iff_not] at hb42; omega))
    · replace hb9 := cq_ge.2.mp hb9
      try simp only [bo_0, Bool.not_eq_false] at hb9
      refine e_step (pc' := 14) hK rfl rfl rfl ?_
      refine e_step (pc' := 15) hK rfl rfl rfl ?_
      refine e_icmp (t := 32) (pc' := 18) hK rfl (by first | omega | exact bo_i _ | (simp only [Bool.and_eq_true, decide_eq_true_eq] at hb42; omega) | (simp only [Bool.and_eq_false_iff, decide_eq_false_iff_not] at hb42; omega)) (by first | omega | exact bo_i _ | (simp only [Bool.and_eq_true, decide_eq_true_eq] at hb42; omega) | (simp only [Bool.and_eq_false_iff, decide_eq_false_iff_not] at hb42; omega)) (by decide) rfl (fun hb15 => ?_) (fun hb15 => ?_)
      · replace hb15 := cq_ge.1.mp hb15
        try simp only [bo_0, Bool.not_eq_false] at hb15
        exfalso; first | omega | exact absurd trivial (by assumption) | (first | omega | exact bo_i _ | (simp only [Bool.and_eq_true, decide_eq_true_eq] at hb42; omega) | (simp only [Bool.and_eq_false_iff, decide_eq_false_iff_not] at hb42; omega))
      · replace hb15 := cq_ge.2.mp hb15
        try simp only [bo_0, Bool.not_eq_false] at hb15
        refine e_step (pc' := 20) hK rfl rfl rfl ?_
        refine e_step (pc' := 23) hK rfl rfl rfl ?_
        refine e_step (pc' := 24) hK rfl rfl rfl ?_
        refine e_step (pc' := 26) hK rfl rfl rfl ?_
        try simp only [List.set_cons_zero, List.set_cons_succ]
        refine e_step (pc' := 29) hK rfl rfl rfl ?_
        try simp only [List.set_cons_zero, List.set_cons_succ]
        refine e_goto (t := 6) hK rfl (by decide) ?_
        rw [show (10000 : Int) ^ i * 10000 = 10000 ^ (i + 1) from (Int.pow_succ _ _).symm]
        exact ih (i + 1) _ (by omega)
set_option maxRecDepth 10000 in
theorem g_run {W : wt} (hM : MdA v W) (n s : Int) (hn : mv_i n) (hs : mv_l s) : mv_Cl sc q_Mod_runScript [(2, 264), (0, n), (1, s)] c (mH h v) (fun r c' h' => r = (0, (sp_run W n s).2.1) ∧ c' = c ∧ ∃ w, h' = mH h w ∧ MdA w (sp_run W n s).2.2 ∧ w 264 0 = (sp_run W n s).1) := by
  show mv_Ev sc 177 0 [(2, 264), (0, n), (1, s), (5, 0), (5, 0), (5, 0), (5, 0), (5, 0)] [] c (mH h v) _
  have hK : (mv_m 177).1 = kc_Mod_runScript := rfl
  refine e_step (pc' := 1) hK rfl rfl rfl ?_
  show mv_Ev _ _ 1 _ ((1, (1 : Int)) :: _) _ _ _
  refine e_step (pc' := 3) hK rfl rfl rfl ?_
  try simp only [List.set_cons_zero, List.set_cons_succ]
  refine e_step (pc' := 4) hK rfl rfl rfl ?_
  refine e_step (pc' := 6) hK rfl rfl rfl ?_
  try simp only [List.set_cons_zero, List.set_cons_succ]
  exact g_run1 hM n s hn hs 4 0 _ (by omega)
end GF
