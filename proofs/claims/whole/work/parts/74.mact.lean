/-! the reference's face: take, what would be, slots, pieces (written by wip/whole/m74.py) -/
section GD
variable {sc : Int × (Int → Int)} {c : mv_C} {h : mv_H} {v : mvt}
set_option maxRecDepth 10000 in
theorem g_take {W : wt} (hM : MdA v W) (l : Int) : mv_Cl sc q_Mod_take [(2, 264)] c (mH h v) (fun r c' h' => r = (0, (sp_take W l).2.1) ∧ c' = c ∧ ∃ w, h' = mH h w ∧ MdA w (sp_take W l).2.2 ∧ w 264 0 = (sp_take W l).1) := by
  have hM0 := hM
  obtain ⟨hTx, hR, ⟨hI, bn, bT⟩, hH, hz, hSv⟩ := hM
  have r0 := hR.1
  have r1 := hR.2.1
  have ern := er_b (wN W) (wF W)
  have hNb := hTx.2.1
  show mv_Ev sc 145 0 [(2, 264)] [] c (mH h v) _
  have hK : (mv_m 145).1 = kc_Mod_take := rfl
  refine e_step (pc' := 1) hK rfl rfl rfl ?_
  refine e_cRV1 (z := 113) (pc' := 4) hK rfl rfl (by first | (simp (disch := omega) only [mH_t64, mH_r1, mH_r3, mH_r4, mH_r5, mH_r6, mH_r8, mH_r9, mH_r10, mH_r11, mH_r12, mH_r14, mH_i0, mH_i2, mH_i7, mH_i13, mH_i15, mH_t71, mH_t, mH_lr, mH_l65, mH_l69, mH_l70, mH_l71, mH_l72, mH_l73, mH_l74, mH_l75, mH_c]; rfl) | (show _ = 2; assumption) | (show _ = 1; assumption) | (show _ = 0; assumption) | (show _ = 3; assumption) | (show _ = 4; assumption)) rfl (Nat.le_of_ble_eq_true rfl) (Nat.le_of_ble_eq_true rfl) (m_wrong hTx) (by decide) rfl ?_
  try simp (disch := omega) only [mH_t64, mH_r1, mH_r3, mH_r4, mH_r5, mH_r6, mH_r8, mH_r9, mH_r10, mH_r11, mH_r12, mH_r14, mH_i0, mH_i2, mH_i7, mH_i13, mH_i15, mH_t71, mH_t, mH_lr, mH_l65, mH_l69, mH_l70, mH_l71, mH_l72, mH_l73, mH_l74, mH_l75, mH_c]
  refine e_step (pc' := 7) hK rfl rfl rfl ?_
  refine e_icmp (t := 18) (pc' := 10) hK rfl (by first | omega | exact bo_i _) (by first | omega | exact bo_i _) (by decide) rfl (fun hb7 => ?_) (fun hb7 => ?_)
  · replace hb7 := cq_ne.1.mp hb7
    try simp only [bo_0, Bool.not_eq_false] at hb7
    refine e_step (pc' := 19) hK rfl rfl rfl ?_
    refine e_step (pc' := 20) hK rfl rfl rfl ?_
    refine e_cRV1 (z := 113) (pc' := 23) hK rfl rfl (by first | (simp (disch := omega) only [mH_t64, mH_r1, mH_r3, mH_r4, mH_r5, mH_r6, mH_r8, mH_r9, mH_r10, mH_r11, mH_r12, mH_r14, mH_i0, mH_i2, mH_i7, mH_i13, mH_i15, mH_t71, mH_t, mH_lr, mH_l65, mH_l69, mH_l70, mH_l71, mH_l72, mH_l73, mH_l74, mH_l75, mH_c]; rfl) | (show _ = 2; assumption) | (show _ = 1; assumption) | (show _ = 0; assumption) | (show _ = 3; assumption) | (show _ = 4; assumption)) rfl (Nat.le_of_ble_eq_true rfl) (Nat.le_of_ble_eq_true rfl) (m_wrong hTx) (by decide) rfl ?_
    try simp (disch := omega) only [mH_t64, mH_r1, mH_r3, mH_r4, mH_r5, mH_r6, mH_r8, mH_r9, mH_r10, mH_r11, mH_r12, mH_r14, mH_i0, mH_i2, mH_i7, mH_i13, mH_i15, mH_t71, mH_t, mH_lr, mH_l65, mH_l69, mH_l70, mH_l71, mH_l72, mH_l73, mH_l74, mH_l75, mH_c]
    refine e_step (pc' := 26) hK rfl rfl rfl ?_
    refine e_icmp (t := 44) (pc' := 29) hK rfl (by first | omega | exact bo_i _) (by first | omega | exact bo_i _) (by decide) rfl (fun hb26 => ?_) (fun hb26 => ?_)
    · replace hb26 := cq_ne.1.mp hb26
      try simp only [bo_0, Bool.not_eq_false] at hb26
      refine e_step (pc' := 45) hK rfl rfl rfl ?_
      refine e_cQV2 (z := 110) hK rfl rfl (by first | (simp (disch := omega) only [mH_t64, mH_r1, mH_r3, mH_r4, mH_r5, mH_r6, mH_r8, mH_r9, mH_r10, mH_r11, mH_r12, mH_r14, mH_i0, mH_i2, mH_i7, mH_i13, mH_i15, mH_t71, mH_t, mH_lr, mH_l65, mH_l69, mH_l70, mH_l71, mH_l72, mH_l73, mH_l74, mH_l75, mH_c]; rfl) | (show _ = 2; assumption) | (show _ = 1; assumption) | (show _ = 0; assumption) | (show _ = 3; assumption) | (show _ = 4; assumption)) rfl (Nat.le_of_ble_eq_true rfl) (Nat.le_of_ble_eq_true rfl) (m_refP 1 (by omega)) ?_
      rintro _ _ _ ⟨rfl, rfl, rfl⟩
      refine ⟨by show (0 : Nat) ≠ 4; decide, ?_⟩
      rw [if_neg (by show ¬ (0 : Nat) = 3; decide)]
      try dsimp only
      have hM1 := hM0.rf 1
      obtain ⟨v1, hv1⟩ : ∃ v1, v1 = gu v 264 (mv_up (v 264) 0 1) := ⟨_, rfl⟩
      rw [← hv1] at hM1 ⊢
      have z1 : v1 264 0 = 1 := by { rw [hv1, gu_s, up_s] }
      have eo1 : ∀ b : Int, b ≠ 264 → v1 b = v b := fun b hb => by { rw [hv1]; exact gu_n hb }
      have ef1 : ∀ k : Int, k ≠ 0 → v1 264 k = v 264 k := fun k hk => by { rw [hv1, gu_s, up_n hk] }
      have hR1 := hM1.2.1
      have ra1 := hR1.1
      have rb1 := hR1.2.1
      clear hv1
      show mv_Ev _ _ 48 _ _ _ _ _
      refine e_if (t := 53) (pc' := 51) hK rfl (by first | omega | exact bo_i _) (by decide) rfl (fun hb48 => ?_) (fun hb48 => ?_)
      · replace hb48 := cq_eq.1.mp hb48
        try simp only [bo_0, Bool.not_eq_false] at hb48
        exfalso; first | omega | exact absurd trivial (by assumption) | (first | omega | exact bo_i _)
      · replace hb48 := cq_eq.2.mp hb48
        try simp only [bo_0, Bool.not_eq_false] at hb48
        refine e_step (pc' := 52) hK rfl rfl rfl ?_
        refine e_ret hK rfl rfl rfl ?_
        have e9 : sp_take W l = (1, 0, W) := by { unfold sp_take; rw [if_neg (fun q => hb7 q.1)] }
        rw [e9]
        exact ⟨rfl, rfl, v1, rfl, hM1, z1⟩
    · replace hb26 := cq_ne.2.mp hb26
      try simp only [bo_0, Bool.not_eq_false] at hb26
      exfalso; first | omega | exact absurd trivial (by assumption) | (first | omega | exact bo_i _)
  · replace hb7 := cq_ne.2.mp hb7
    try simp only [bo_0, Bool.not_eq_false] at hb7
    have hokx : xok (wN W, wF W) := (er_ok hb7).1
    have hn40 : wN W ≤ 40 := (xn_b hokx).2.2.2
    refine e_step (pc' := 11) hK rfl rfl rfl ?_
    refine e_step (pc' := 12) hK rfl rfl rfl ?_
    refine e_getR (ci := 4) (k := 3) (pc' := 15) hK rfl (by simp (disch := omega) only [mH_t64, mH_r1, mH_r3, mH_r4, mH_r5, mH_r6, mH_r8, mH_r9, mH_r10, mH_r11, mH_r12, mH_r14, mH_i0, mH_i2, mH_i7, mH_i13, mH_i15, mH_t71, mH_t, mH_lr, mH_l65, mH_l69, mH_l70, mH_l71, mH_l72, mH_l73, mH_l74, mH_l75, mH_c]) rfl rfl (by decide) (by decide) (by (try simp (disch := omega) only [mH_t64, mH_r1, mH_r3, mH_r4, mH_r5, mH_r6, mH_r8, mH_r9, mH_r10, mH_r11, mH_r12, mH_r14, mH_i0, mH_i2, mH_i7, mH_i13, mH_i15, mH_t71, mH_t, mH_lr, mH_l65, mH_l69, mH_l70, mH_l71, mH_l72, mH_l73, mH_l74, mH_l75, mH_c]); first | omega | exact bo_i _) rfl ?_
    try simp (disch := omega) only [mH_t64, mH_r1, mH_r3, mH_r4, mH_r5, mH_r6, mH_r8, mH_r9, mH_r10, mH_r11, mH_r12, mH_r14, mH_i0, mH_i2, mH_i7, mH_i13, mH_i15, mH_t71, mH_t, mH_lr, mH_l65, mH_l69, mH_l70, mH_l71, mH_l72, mH_l73, mH_l74, mH_l75, mH_c]
    refine e_cQV2 (z := 146) hK rfl rfl (by first | (simp (disch := omega) only [mH_t64, mH_r1, mH_r3, mH_r4, mH_r5, mH_r6, mH_r8, mH_r9, mH_r10, mH_r11, mH_r12, mH_r14, mH_i0, mH_i2, mH_i7, mH_i13, mH_i15, mH_t71, mH_t, mH_lr, mH_l65, mH_l69, mH_l70, mH_l71, mH_l72, mH_l73, mH_l74, mH_l75, mH_c]; rfl) | (show _ = 2; assumption) | (show _ = 1; assumption) | (show _ = 0; assumption) | (show _ = 3; assumption) | (show _ = 4; assumption)) rfl (Nat.le_of_ble_eq_true rfl) (Nat.le_of_ble_eq_true rfl) (m_layText 266 (by omega) hR hI (wN W) (wF W) hTx.1 hn40 hTx.2.2.1 bn) ?_
    rintro _ _ _ ⟨rfl, rfl, a, rfl, ha, hl, hla⟩
    refine ⟨by decide, ?_⟩
    rw [if_pos rfl]
    try dsimp only
    show mv_Ev _ _ 18 _ _ _ _ _
    have hRa : Rw (a 266) (wA W) := Rw_same hR hI hla bn
    have hMa : MdA a W := ⟨hTx.kq (ha 265 (by omega)) (congrFun (ha 264 (by omega)) 2), hRa, ⟨hI, bn, bT⟩, by { have h9 := hH; unfold HdR at *; rw [ha 264 (by omega), ha 269 (by omega)]; exact h9 }, hz, fun s hs => by { rw [ha 271 (by omega), ha 270 (by omega)]; exact hSv s hs }⟩
    have ra0 := hRa.1
    refine e_step (pc' := 19) hK rfl rfl rfl ?_
    refine e_step (pc' := 20) hK rfl rfl rfl ?_
    refine e_cRV1 (z := 113) (pc' := 23) hK rfl rfl (by first | (simp (disch := omega) only [mH_t64, mH_r1, mH_r3, mH_r4, mH_r5, mH_r6, mH_r8, mH_r9, mH_r10, mH_r11, mH_r12, mH_r14, mH_i0, mH_i2, mH_i7, mH_i13, mH_i15, mH_t71, mH_t, mH_lr, mH_l65, mH_l69, mH_l70, mH_l71, mH_l72, mH_l73, mH_l74, mH_l75, mH_c, ra0]; rfl) | (show _ = 2; assumption) | (show _ = 1; assumption) | (show _ = 0; assumption) | (show _ = 3; assumption) | (show _ = 4; assumption)) rfl (Nat.le_of_ble_eq_true rfl) (Nat.le_of_ble_eq_true rfl) (m_wrong hMa.1) (by decide) rfl ?_
    try simp (disch := omega) only [mH_t64, mH_r1, mH_r3, mH_r4, mH_r5, mH_r6, mH_r8, mH_r9, mH_r10, mH_r11, mH_r12, mH_r14, mH_i0, mH_i2, mH_i7, mH_i13, mH_i15, mH_t71, mH_t, mH_lr, mH_l65, mH_l69, mH_l70, mH_l71, mH_l72, mH_l73, mH_l74, mH_l75, mH_c, ra0]
    refine e_step (pc' := 26) hK rfl rfl rfl ?_
    refine e_icmp (t := 44) (pc' := 29) hK rfl (by first | omega | exact bo_i _) (by first | omega | exact bo_i _) (by decide) rfl (fun hb26 => ?_) (fun hb26 => ?_)
    · replace hb26 := cq_ne.1.mp hb26
      try simp only [bo_0, Bool.not_eq_false] at hb26
      exfalso; first | omega | exact absurd trivial (by assumption) | (first | omega | exact bo_i _)
    · replace hb26 := cq_ne.2.mp hb26
      try simp only [bo_0, Bool.not_eq_false] at hb26
      refine e_step (pc' := 30) hK rfl rfl rfl ?_
      refine e_step (pc' := 31) hK rfl rfl rfl ?_
      refine e_getR (ci := 4) (k := 3) (pc' := 34) hK rfl (by simp (disch := omega) only [mH_t64, mH_r1, mH_r3, mH_r4, mH_r5, mH_r6, mH_r8, mH_r9, mH_r10, mH_r11, mH_r12, mH_r14, mH_i0, mH_i2, mH_i7, mH_i13, mH_i15, mH_t71, mH_t, mH_lr, mH_l65, mH_l69, mH_l70, mH_l71, mH_l72, mH_l73, mH_l74, mH_l75, mH_c, ra0]) rfl rfl (by decide) (by decide) (by (try simp (disch := omega) only [mH_t64, mH_r1, mH_r3, mH_r4, mH_r5, mH_r6, mH_r8, mH_r9, mH_r10, mH_r11, mH_r12, mH_r14, mH_i0, mH_i2, mH_i7, mH_i13, mH_i15, mH_t71, mH_t, mH_lr, mH_l65, mH_l69, mH_l70, mH_l71, mH_l72, mH_l73, mH_l74, mH_l75, mH_c, ra0]); first | omega | exact bo_i _) rfl ?_
      try simp (disch := omega) only [mH_t64, mH_r1, mH_r3, mH_r4, mH_r5, mH_r6, mH_r8, mH_r9, mH_r10, mH_r11, mH_r12, mH_r14, mH_i0, mH_i2, mH_i7, mH_i13, mH_i15, mH_t71, mH_t, mH_lr, mH_l65, mH_l69, mH_l70, mH_l71, mH_l72, mH_l73, mH_l74, mH_l75, mH_c, ra0]
      refine e_cQV2 (z := 147) hK rfl rfl (by first | (simp (disch := omega) only [mH_t64, mH_r1, mH_r3, mH_r4, mH_r5, mH_r6, mH_r8, mH_r9, mH_r10, mH_r11, mH_r12, mH_r14, mH_i0, mH_i2, mH_i7, mH_i13, mH_i15, mH_t71, mH_t, mH_lr, mH_l65, mH_l69, mH_l70, mH_l71, mH_l72, mH_l73, mH_l74, mH_l75, mH_c, ra0]; rfl) | (show _ = 2; assumption) | (show _ = 1; assumption) | (show _ = 0; assumption) | (show _ = 3; assumption) | (show _ = 4; assumption)) rfl (Nat.le_of_ble_eq_true rfl) (Nat.le_of_ble_eq_true rfl) (m_canSettle 266 (by omega) hRa hI hokx hl bn) ?_
      rintro _ _ _ ⟨rfl, rfl, w, rfl, hw⟩
      refine ⟨by show (0 : Nat) ≠ 4; decide, ?_⟩
      rw [if_neg (by show ¬ (0 : Nat) = 3; decide)]
      try dsimp only
      have hMw := hMa.ms hw
      have hRw := hMw.2.1
      have hgc := gtf_c (A := wA W) (x := (wN W, wF W))
      have hlw : Rl (w 266) (gn (wA W)) (wN W, wF W) := by { rw [hw 266 (by omega) (by omega) (by omega)]; exact hl }
      show mv_Ev _ _ 37 _ _ _ _ _
      refine e_if (t := 44) (pc' := 40) hK rfl (by first | omega | exact bo_i _) (by decide) rfl (fun hb37 => ?_) (fun hb37 => ?_)
      · replace hb37 := cq_eq.1.mp hb37
        try simp only [bo_0, Bool.not_eq_false] at hb37
        refine e_step (pc' := 45) hK rfl rfl rfl ?_
        refine e_cQV2 (z := 110) hK rfl rfl (by first | (simp (disch := omega) only [mH_t64, mH_r1, mH_r3, mH_r4, mH_r5, mH_r6, mH_r8, mH_r9, mH_r10, mH_r11, mH_r12, mH_r14, mH_i0, mH_i2, mH_i7, mH_i13, mH_i15, mH_t71, mH_t, mH_lr, mH_l65, mH_l69, mH_l70, mH_l71, mH_l72, mH_l73, mH_l74, mH_l75, mH_c, ra0]; rfl) | (show _ = 2; assumption) | (show _ = 1; assumption) | (show _ = 0; assumption) | (show _ = 3; assumption) | (show _ = 4; assumption)) rfl (Nat.le_of_ble_eq_true rfl) (Nat.le_of_ble_eq_true rfl) (m_refP 1 (by omega)) ?_
        rintro _ _ _ ⟨rfl, rfl, rfl⟩
        refine ⟨by show (0 : Nat) ≠ 4; decide, ?_⟩
        rw [if_neg (by show ¬ (0 : Nat) = 3; decide)]
        try dsimp only
        have hM1 := hMw.rf 1
        obtain ⟨v1, hv1⟩ : ∃ v1, v1 = gu w 264 (mv_up (w 264) 0 1) := ⟨_, rfl⟩
        rw [← hv1] at hM1 ⊢
        have z1 : v1 264 0 = 1 := by { rw [hv1, gu_s, up_s] }
        have eo1 : ∀ b : Int, b ≠ 264 → v1 b = w b := fun b hb => by { rw [hv1]; exact gu_n hb }
        have ef1 : ∀ k : Int, k ≠ 0 → v1 264 k = w 264 k := fun k hk => by { rw [hv1, gu_s, up_n hk] }
        have hR1 := hM1.2.1
        have ra1 := hR1.1
        have rb1 := hR1.2.1
        clear hv1
        show mv_Ev _ _ 48 _ _ _ _ _
        refine e_if (t := 53) (pc' := 51) hK rfl (by first | omega | exact bo_i _) (by decide) rfl (fun hb48 => ?_) (fun hb48 => ?_)
        · replace hb48 := cq_eq.1.mp hb48
          try simp only [bo_0, Bool.not_eq_false] at hb48
          exfalso; first | omega | exact absurd trivial (by assumption) | (first | omega | exact bo_i _)
        · replace hb48 := cq_eq.2.mp hb48
          try simp only [bo_0, Bool.not_eq_false] at hb48
          refine e_step (pc' := 52) hK rfl rfl rfl ?_
          refine e_ret hK rfl rfl rfl ?_
          have hb37 := of_decide_eq_false hb37
          have e9 : sp_take W l = (1, 0, W) := by { unfold sp_take; rw [if_neg (fun q => hb37 (hgc.2 q.2).1)] }
          rw [e9]
          exact ⟨rfl, rfl, v1, rfl, hM1, z1⟩
      · replace hb37 := cq_eq.2.mp hb37
        try simp only [bo_0, Bool.not_eq_false] at hb37
        refine e_step (pc' := 41) hK rfl rfl rfl ?_
        refine e_goto (t := 45) hK rfl (by decide) ?_
        refine e_cQV2 (z := 110) hK rfl rfl (by first | (simp (disch := omega) only [mH_t64, mH_r1, mH_r3, mH_r4, mH_r5, mH_r6, mH_r8, mH_r9, mH_r10, mH_r11, mH_r12, mH_r14, mH_i0, mH_i2, mH_i7, mH_i13, mH_i15, mH_t71, mH_t, mH_lr, mH_l65, mH_l69, mH_l70, mH_l71, mH_l72, mH_l73, mH_l74, mH_l75, mH_c, ra0]; rfl) | (show _ = 2; assumption) | (show _ = 1; assumption) | (show _ = 0; assumption) | (show _ = 3; assumption) | (show _ = 4; assumption)) rfl (Nat.le_of_ble_eq_true rfl) (Nat.le_of_ble_eq_true rfl) (m_ref0) ?_
        rintro _ _ _ ⟨rfl, rfl, rfl⟩
        refine ⟨by show (0 : Nat) ≠ 4; decide, ?_⟩
        rw [if_neg (by show ¬ (0 : Nat) = 3; decide)]
        try dsimp only
        have hM1 := hMw.rf 0
        obtain ⟨v1, hv1⟩ : ∃ v1, v1 = gu w 264 (mv_up (w 264) 0 0) := ⟨_, rfl⟩
        rw [← hv1] at hM1 ⊢
        have z1 : v1 264 0 = 0 := by { rw [hv1, gu_s, up_s] }
        have eo1 : ∀ b : Int, b ≠ 264 → v1 b = w b := fun b hb => by { rw [hv1]; exact gu_n hb }
        have ef1 : ∀ k : Int, k ≠ 0 → v1 264 k = w 264 k := fun k hk => by { rw [hv1, gu_s, up_n hk] }
        have hR1 := hM1.2.1
        have ra1 := hR1.1
        have rb1 := hR1.2.1
        clear hv1
        show mv_Ev _ _ 48 _ _ _ _ _
        refine e_if (t := 53) (pc' := 51) hK rfl (by first | omega | exact bo_i _) (by decide) rfl (fun hb48 => ?_) (fun hb48 => ?_)
        · replace hb48 := cq_eq.1.mp hb48
          try simp only [bo_0, Bool.not_eq_false] at hb48
          refine e_step (pc' := 54) hK rfl rfl rfl ?_
          refine e_cQV1 (z := 150) hK rfl rfl (by first | (simp (disch := omega) only [mH_t64, mH_r1, mH_r3, mH_r4, mH_r5, mH_r6, mH_r8, mH_r9, mH_r10, mH_r11, mH_r12, mH_r14, mH_i0, mH_i2, mH_i7, mH_i13, mH_i15, mH_t71, mH_t, mH_lr, mH_l65, mH_l69, mH_l70, mH_l71, mH_l72, mH_l73, mH_l74, mH_l75, mH_c, ra0, ra1, rb1]; rfl) | (show _ = 2; assumption) | (show _ = 1; assumption) | (show _ = 0; assumption) | (show _ = 3; assumption) | (show _ = 4; assumption)) rfl (Nat.le_of_ble_eq_true rfl) (Nat.le_of_ble_eq_true rfl) (m_remember hM1.2.2.2.1 hM1.2.1 hI) ?_
          rintro _ _ _ ⟨rfl, rfl, y, rfl, hy, hy4, hyH⟩
          refine ⟨by decide, ?_⟩
          rw [if_pos rfl]
          try dsimp only
          have ey : y 266 = v1 266 := hy 266 (by omega) (by omega)
          have hRy : Rw (y 266) (wA W) := by { rw [ey]; exact hM1.2.1 }
          have ry0 := hRy.1
          have ry1 := hRy.2.1
          show mv_Ev _ _ 57 _ _ _ _ _
          refine e_step (pc' := 58) hK rfl rfl rfl ?_
          refine e_step (pc' := 59) hK rfl rfl rfl ?_
          refine e_getR (ci := 4) (k := 3) (pc' := 62) hK rfl (by simp (disch := omega) only [mH_t64, mH_r1, mH_r3, mH_r4, mH_r5, mH_r6, mH_r8, mH_r9, mH_r10, mH_r11, mH_r12, mH_r14, mH_i0, mH_i2, mH_i7, mH_i13, mH_i15, mH_t71, mH_t, mH_lr, mH_l65, mH_l69, mH_l70, mH_l71, mH_l72, mH_l73, mH_l74, mH_l75, mH_c, ra0, ra1, rb1, ry0, ry1]) rfl rfl (by decide) (by decide) (by (try simp (disch := omega) only [mH_t64, mH_r1, mH_r3, mH_r4, mH_r5, mH_r6, mH_r8, mH_r9, mH_r10, mH_r11, mH_r12, mH_r14, mH_i0, mH_i2, mH_i7, mH_i13, mH_i15, mH_t71, mH_t, mH_lr, mH_l65, mH_l69, mH_l70, mH_l71, mH_l72, mH_l73, mH_l74, mH_l75, mH_c, ra0, ra1, rb1, ry0, ry1]); first | omega | exact bo_i _) rfl ?_
          try simp (disch := omega) only [mH_t64, mH_r1, mH_r3, mH_r4, mH_r5, mH_r6, mH_r8, mH_r9, mH_r10, mH_r11, mH_r12, mH_r14, mH_i0, mH_i2, mH_i7, mH_i13, mH_i15, mH_t71, mH_t, mH_lr, mH_l65, mH_l69, mH_l70, mH_l71, mH_l72, mH_l73, mH_l74, mH_l75, mH_c, ra0, ra1, rb1, ry0, ry1]
          refine e_cQV2 (z := 152) hK rfl rfl (by first | (simp (disch := omega) only [mH_t64, mH_r1, mH_r3, mH_r4, mH_r5, mH_r6, mH_r8, mH_r9, mH_r10, mH_r11, mH_r12, mH_r14, mH_i0, mH_i2, mH_i7, mH_i13, mH_i15, mH_t71, mH_t, mH_lr, mH_l65, mH_l69, mH_l70, mH_l71, mH_l72, mH_l73, mH_l74, mH_l75, mH_c, ra0, ra1, rb1, ry0, ry1]; rfl) | (show _ = 2; assumption) | (show _ = 1; assumption) | (show _ = 0; assumption) | (show _ = 3; assumption) | (show _ = 4; assumption)) rfl (Nat.le_of_ble_eq_true rfl) (Nat.le_of_ble_eq_true rfl) (m_settle 266 (by omega) hRy hI (x := xtg (wN W) (wF W) l) (xok_tg.mpr hokx) (Rl_tg (by rw [ey, eo1 266 (by omega)]; exact hlw)) bn bT) ?_
          rintro _ _ _ ⟨rfl, rfl, u, rfl, hu, ru⟩
          refine ⟨by show (0 : Nat) ≠ 4; decide, ?_⟩
          rw [if_neg (by show ¬ (0 : Nat) = 3; decide)]
          try dsimp only
          show mv_Ev _ _ 65 _ _ _ _ _
          refine e_ret hK rfl rfl rfl ?_
          have hb37 := of_decide_eq_true hb37
          have hne : gtf (wA W) (wN W, wF W) ≠ -9999 := fun e => hgc.1 e hb37
          have e8 := gtf_tg (l := l) (A := wA W) hokx
          have hne2 : gtf (wA W) (xtg (wN W) (wF W) l) ≠ -9999 := by { rw [e8]; exact hne }
          have e7 := gput_w hne2 bT
          have e6 := (gtf_c.2 hne2).2
          have hsz := sz_put (x := xtg (wN W) (wF W) l) ⟨hI, bn, bT⟩ (xok_tg.mpr hokx) hne2
          rw [← e7] at ru
          rw [← e6, e8]
          rw [e8] at ru hsz
          have e9 : sp_take W l = (0, gtf (wA W) (wN W, wF W), w_R W (gput (wA W) (xtg (wN W) (wF W) l) (gtf (wA W) (wN W, wF W)))) := by { unfold sp_take; rw [if_pos ⟨hb7, hne⟩]; rfl }
          rw [e9]
          exact ⟨rfl, rfl, u, rfl, hM1.act hy hy4 hyH hu ru hsz, (congrFun (hu 264 (by omega) (by omega) (by omega) (by omega)) 0).trans ((hy4 0 (by omega)).trans z1)⟩
        · replace hb48 := cq_eq.2.mp hb48
          try simp only [bo_0, Bool.not_eq_false] at hb48
          exfalso; first | omega | exact absurd trivial (by assumption) | (first | omega | exact bo_i _)
set_option maxRecDepth 10000 in
theorem g_which {W : wt} (hM : MdA v W) : mv_Cl sc q_Mod_which [(2, 264)] c (mH h v) (fun r c' h' => r = (0, (sp_which W).2.1) ∧ c' = c ∧ ∃ w, h' = mH h w ∧ MdA w (sp_which W).2.2) := by
  have hM0 := hM
  obtain ⟨hTx, hR, ⟨hI, bn, bT⟩, hH, hz, hSv⟩ := hM
  have r0 := hR.1
  have r1 := hR.2.1
  have ern := er_b (wN W) (wF W)
  have hNb := hTx.2.1
  show mv_Ev sc 169 0 [(2, 264)] [] c (mH h v) _
  have hK : (mv_m 169).1 = kc_Mod_which := rfl
  refine e_step (pc' := 1) hK rfl rfl rfl ?_
  refine e_cRV1 (z := 113) (pc' := 4) hK rfl rfl (by first | (simp (disch := omega) only [mH_t64, mH_r1, mH_r3, mH_r4, mH_r5, mH_r6, mH_r8, mH_r9, mH_r10, mH_r11, mH_r12, mH_r14, mH_i0, mH_i2, mH_i7, mH_i13, mH_i15, mH_t71, mH_t, mH_lr, mH_l65, mH_l69, mH_l70, mH_l71, mH_l72, mH_l73, mH_l74, mH_l75, mH_c]; rfl) | (show _ = 2; assumption) | (show _ = 1; assumption) | (show _ = 0; assumption) | (show _ = 3; assumption) | (show _ = 4; assumption)) rfl (Nat.le_of_ble_eq_true rfl) (Nat.le_of_ble_eq_true rfl) (m_wrong hTx) (by decide) rfl ?_
  try simp (disch := omega) only [mH_t64, mH_r1, mH_r3, mH_r4, mH_r5, mH_r6, mH_r8, mH_r9, mH_r10, mH_r11, mH_r12, mH_r14, mH_i0, mH_i2, mH_i7, mH_i13, mH_i15, mH_t71, mH_t, mH_lr, mH_l65, mH_l69, mH_l70, mH_l71, mH_l72, mH_l73, mH_l74, mH_l75, mH_c]
  refine e_step (pc' := 7) hK rfl rfl rfl ?_
  refine e_icmp (t := 14) (pc' := 10) hK rfl (by omega) (by omega) (by decide) rfl (fun hb7 => ?_) (fun hb7 => ?_)
  · replace hb7 := cq_eq.1.mp hb7
    have hokx : xok (wN W, wF W) := (er_ok hb7).1
    have hn40 : wN W ≤ 40 := (xn_b hokx).2.2.2
    refine e_step (pc' := 15) hK rfl rfl rfl ?_
    refine e_getR (ci := 4) (k := 3) (pc' := 18) hK rfl (by simp (disch := omega) only [mH_t64, mH_r1, mH_r3, mH_r4, mH_r5, mH_r6, mH_r8, mH_r9, mH_r10, mH_r11, mH_r12, mH_r14, mH_i0, mH_i2, mH_i7, mH_i13, mH_i15, mH_t71, mH_t, mH_lr, mH_l65, mH_l69, mH_l70, mH_l71, mH_l72, mH_l73, mH_l74, mH_l75, mH_c]) rfl rfl (by decide) (by decide) (by (try simp (disch := omega) only [mH_t64, mH_r1, mH_r3, mH_r4, mH_r5, mH_r6, mH_r8, mH_r9, mH_r10, mH_r11, mH_r12, mH_r14, mH_i0, mH_i2, mH_i7, mH_i13, mH_i15, mH_t71, mH_t, mH_lr, mH_l65, mH_l69, mH_l70, mH_l71, mH_l72, mH_l73, mH_l74, mH_l75, mH_c]); omega) rfl ?_
    try simp (disch := omega) only [mH_t64, mH_r1, mH_r3, mH_r4, mH_r5, mH_r6, mH_r8, mH_r9, mH_r10, mH_r11, mH_r12, mH_r14, mH_i0, mH_i2, mH_i7, mH_i13, mH_i15, mH_t71, mH_t, mH_lr, mH_l65, mH_l69, mH_l70, mH_l71, mH_l72, mH_l73, mH_l74, mH_l75, mH_c]
    refine e_step (pc' := 19) hK rfl rfl rfl ?_
    refine e_step (pc' := 20) hK rfl rfl rfl ?_
    refine e_getR (ci := 4) (k := 4) (pc' := 23) hK rfl (by simp (disch := omega) only [mH_t64, mH_r1, mH_r3, mH_r4, mH_r5, mH_r6, mH_r8, mH_r9, mH_r10, mH_r11, mH_r12, mH_r14, mH_i0, mH_i2, mH_i7, mH_i13, mH_i15, mH_t71, mH_t, mH_lr, mH_l65, mH_l69, mH_l70, mH_l71, mH_l72, mH_l73, mH_l74, mH_l75, mH_c]) rfl rfl (by decide) (by decide) (by (try simp (disch := omega) only [mH_t64, mH_r1, mH_r3, mH_r4, mH_r5, mH_r6, mH_r8, mH_r9, mH_r10, mH_r11, mH_r12, mH_r14, mH_i0, mH_i2, mH_i7, mH_i13, mH_i15, mH_t71, mH_t, mH_lr, mH_l65, mH_l69, mH_l70, mH_l71, mH_l72, mH_l73, mH_l74, mH_l75, mH_c]); omega) rfl ?_
    try simp (disch := omega) only [mH_t64, mH_r1, mH_r3, mH_r4, mH_r5, mH_r6, mH_r8, mH_r9, mH_r10, mH_r11, mH_r12, mH_r14, mH_i0, mH_i2, mH_i7, mH_i13, mH_i15, mH_t71, mH_t, mH_lr, mH_l65, mH_l69, mH_l70, mH_l71, mH_l72, mH_l73, mH_l74, mH_l75, mH_c]
    refine e_step (pc' := 24) hK rfl rfl rfl ?_
    refine e_cQS4 (z := 151) hK rfl rfl rfl (Nat.le_of_ble_eq_true rfl) (Nat.le_of_ble_eq_true rfl) (m_copyLog 266 0 267 0 (by omega) (by omega) (by omega) (by omega) (by omega) (by show (0 : Int) + 1221 ≤ 1221 ∧ (1221 : Int) ≤ 20000; omega) (by show (0 : Int) + 1221 ≤ 1221 ∧ (1221 : Int) ≤ 20000; omega)) ?_
    rintro _ _ _ ⟨rfl, rfl, y, rfl, hy, ry⟩
    refine ⟨by decide, ?_⟩
    rw [if_pos rfl]
    try dsimp only
    have hRt : Rw (y 267) (wA W) := Rw_ext hR hI (fun q q0 q1 => by { rw [ry q, if_pos (by omega)]; exact congrArg (v 266) (by omega) })
    have hMy : MdA y W := hM0.kq (fun b hb => hy b (by omega)) (congrFun (hy 264 (by omega)) 2) (congrFun (hy 264 (by omega)) 7)
    have rt0 := hRt.1
    show mv_Ev _ _ 27 _ _ _ _ _
    refine e_step (pc' := 28) hK rfl rfl rfl ?_
    refine e_step (pc' := 29) hK rfl rfl rfl ?_
    refine e_getR (ci := 4) (k := 4) (pc' := 32) hK rfl (by simp (disch := omega) only [mH_t64, mH_r1, mH_r3, mH_r4, mH_r5, mH_r6, mH_r8, mH_r9, mH_r10, mH_r11, mH_r12, mH_r14, mH_i0, mH_i2, mH_i7, mH_i13, mH_i15, mH_t71, mH_t, mH_lr, mH_l65, mH_l69, mH_l70, mH_l71, mH_l72, mH_l73, mH_l74, mH_l75, mH_c, rt0]) rfl rfl (by decide) (by decide) (by (try simp (disch := omega) only [mH_t64, mH_r1, mH_r3, mH_r4, mH_r5, mH_r6, mH_r8, mH_r9, mH_r10, mH_r11, mH_r12, mH_r14, mH_i0, mH_i2, mH_i7, mH_i13, mH_i15, mH_t71, mH_t, mH_lr, mH_l65, mH_l69, mH_l70, mH_l71, mH_l72, mH_l73, mH_l74, mH_l75, mH_c, rt0]); omega) rfl ?_
    try simp (disch := omega) only [mH_t64, mH_r1, mH_r3, mH_r4, mH_r5, mH_r6, mH_r8, mH_r9, mH_r10, mH_r11, mH_r12, mH_r14, mH_i0, mH_i2, mH_i7, mH_i13, mH_i15, mH_t71, mH_t, mH_lr, mH_l65, mH_l69, mH_l70, mH_l71, mH_l72, mH_l73, mH_l74, mH_l75, mH_c, rt0]
    refine e_cQV2 (z := 146) hK rfl rfl (by first | (simp (disch := omega) only [mH_t64, mH_r1, mH_r3, mH_r4, mH_r5, mH_r6, mH_r8, mH_r9, mH_r10, mH_r11, mH_r12, mH_r14, mH_i0, mH_i2, mH_i7, mH_i13, mH_i15, mH_t71, mH_t, mH_lr, mH_l65, mH_l69, mH_l70, mH_l71, mH_l72, mH_l73, mH_l74, mH_l75, mH_c, rt0]; rfl) | (show _ = 2; assumption) | (show _ = 1; assumption) | (show _ = 0; assumption) | (show _ = 3; assumption) | (show _ = 4; assumption)) rfl (Nat.le_of_ble_eq_true rfl) (Nat.le_of_ble_eq_true rfl) (m_layText 267 (by omega) hRt hI (wN W) (wF W) hMy.1.1 hn40 hMy.1.2.2.1 bn) ?_
    rintro _ _ _ ⟨rfl, rfl, a, rfl, ha, hl, hla⟩
    refine ⟨by decide, ?_⟩
    rw [if_pos rfl]
    try dsimp only
    have hRa : Rw (a 267) (wA W) := Rw_same hRt hI hla bn
    have hMa : MdA a W := hMy.kq (fun b hb => ha b (by omega)) (congrFun (ha 264 (by omega)) 2) (congrFun (ha 264 (by omega)) 7)
    have ra0 := hRa.1
    show mv_Ev _ _ 35 _ _ _ _ _
    refine e_step (pc' := 36) hK rfl rfl rfl ?_
    refine e_step (pc' := 37) hK rfl rfl rfl ?_
    refine e_getR (ci := 4) (k := 4) (pc' := 40) hK rfl (by simp (disch := omega) only [mH_t64, mH_r1, mH_r3, mH_r4, mH_r5, mH_r6, mH_r8, mH_r9, mH_r10, mH_r11, mH_r12, mH_r14, mH_i0, mH_i2, mH_i7, mH_i13, mH_i15, mH_t71, mH_t, mH_lr, mH_l65, mH_l69, mH_l70, mH_l71, mH_l72, mH_l73, mH_l74, mH_l75, mH_c, rt0, ra0]) rfl rfl (by decide) (by decide) (by (try simp (disch := omega) only [mH_t64, mH_r1, mH_r3, mH_r4, mH_r5, mH_r6, mH_r8, mH_r9, mH_r10, mH_r11, mH_r12, mH_r14, mH_i0, mH_i2, mH_i7, mH_i13, mH_i15, mH_t71, mH_t, mH_lr, mH_l65, mH_l69, mH_l70, mH_l71, mH_l72, mH_l73, mH_l74, mH_l75, mH_c, rt0, ra0]); omega) rfl ?_
    try simp (disch := omega) only [mH_t64, mH_r1, mH_r3, mH_r4, mH_r5, mH_r6, mH_r8, mH_r9, mH_r10, mH_r11, mH_r12, mH_r14, mH_i0, mH_i2, mH_i7, mH_i13, mH_i15, mH_t71, mH_t, mH_lr, mH_l65, mH_l69, mH_l70, mH_l71, mH_l72, mH_l73, mH_l74, mH_l75, mH_c, rt0, ra0]
    refine e_step (pc' := 41) hK rfl rfl rfl ?_
    refine e_getR (ci := 4) (k := 4) (pc' := 44) hK rfl (by simp (disch := omega) only [mH_t64, mH_r1, mH_r3, mH_r4, mH_r5, mH_r6, mH_r8, mH_r9, mH_r10, mH_r11, mH_r12, mH_r14, mH_i0, mH_i2, mH_i7, mH_i13, mH_i15, mH_t71, mH_t, mH_lr, mH_l65, mH_l69, mH_l70, mH_l71, mH_l72, mH_l73, mH_l74, mH_l75, mH_c, rt0, ra0]) rfl rfl (by decide) (by decide) (by (try simp (disch := omega) only [mH_t64, mH_r1, mH_r3, mH_r4, mH_r5, mH_r6, mH_r8, mH_r9, mH_r10, mH_r11, mH_r12, mH_r14, mH_i0, mH_i2, mH_i7, mH_i13, mH_i15, mH_t71, mH_t, mH_lr, mH_l65, mH_l69, mH_l70, mH_l71, mH_l72, mH_l73, mH_l74, mH_l75, mH_c, rt0, ra0]); omega) rfl ?_
    try simp (disch := omega) only [mH_t64, mH_r1, mH_r3, mH_r4, mH_r5, mH_r6, mH_r8, mH_r9, mH_r10, mH_r11, mH_r12, mH_r14, mH_i0, mH_i2, mH_i7, mH_i13, mH_i15, mH_t71, mH_t, mH_lr, mH_l65, mH_l69, mH_l70, mH_l71, mH_l72, mH_l73, mH_l74, mH_l75, mH_c, rt0, ra0]
    refine e_step (pc' := 45) hK rfl rfl rfl ?_
    refine e_iald (pc' := 46) hK rfl (by simp (disch := omega) only [mH_t64, mH_r1, mH_r3, mH_r4, mH_r5, mH_r6, mH_r8, mH_r9, mH_r10, mH_r11, mH_r12, mH_r14, mH_i0, mH_i2, mH_i7, mH_i13, mH_i15, mH_t71, mH_t, mH_lr, mH_l65, mH_l69, mH_l70, mH_l71, mH_l72, mH_l73, mH_l74, mH_l75, mH_c, rt0, ra0]) (by omega) (by (try simp (disch := omega) only [mH_t64, mH_r1, mH_r3, mH_r4, mH_r5, mH_r6, mH_r8, mH_r9, mH_r10, mH_r11, mH_r12, mH_r14, mH_i0, mH_i2, mH_i7, mH_i13, mH_i15, mH_t71, mH_t, mH_lr, mH_l65, mH_l69, mH_l70, mH_l71, mH_l72, mH_l73, mH_l74, mH_l75, mH_c, rt0, ra0]); omega) rfl ?_
    try simp (disch := omega) only [mH_t64, mH_r1, mH_r3, mH_r4, mH_r5, mH_r6, mH_r8, mH_r9, mH_r10, mH_r11, mH_r12, mH_r14, mH_i0, mH_i2, mH_i7, mH_i13, mH_i15, mH_t71, mH_t, mH_lr, mH_l65, mH_l69, mH_l70, mH_l71, mH_l72, mH_l73, mH_l74, mH_l75, mH_c, rt0, ra0]
    refine e_cQV3 (z := 148) hK rfl rfl (by first | (simp (disch := omega) only [mH_t64, mH_r1, mH_r3, mH_r4, mH_r5, mH_r6, mH_r8, mH_r9, mH_r10, mH_r11, mH_r12, mH_r14, mH_i0, mH_i2, mH_i7, mH_i13, mH_i15, mH_t71, mH_t, mH_lr, mH_l65, mH_l69, mH_l70, mH_l71, mH_l72, mH_l73, mH_l74, mH_l75, mH_c, rt0, ra0]; rfl) | (show _ = 2; assumption) | (show _ = 1; assumption) | (show _ = 0; assumption) | (show _ = 3; assumption) | (show _ = 4; assumption)) rfl (Nat.le_of_ble_eq_true rfl) (Nat.le_of_ble_eq_true rfl) (m_tempFor 267 (by omega) hRa hI (gn (wA W)) ⟨by omega, by omega⟩ hokx hl) ?_
    rintro _ _ _ ⟨rfl, rfl, w, rfl, hw⟩
    refine ⟨by show (0 : Nat) ≠ 4; decide, ?_⟩
    rw [if_neg (by show ¬ (0 : Nat) = 3; decide)]
    try dsimp only
    show mv_Ev _ _ 49 _ _ _ _ _
    refine e_ret hK rfl rfl rfl ?_
    refine ⟨?_, rfl, w, rfl, hMa.ms hw⟩
    show (0, _) = (0, if _ then _ else _)
    rw [if_pos hb7]
  · replace hb7 := cq_eq.2.mp hb7
    refine e_step (pc' := 13) hK rfl rfl rfl ?_
    refine e_ret hK rfl rfl rfl ?_
    refine ⟨?_, rfl, v, rfl, hM0⟩
    show (0, _) = (0, if _ then _ else _)
    rw [if_neg hb7]
set_option maxRecDepth 10000 in
theorem g_cost {W : wt} (hM : MdA v W) : mv_Cl sc q_Mod_wouldCost [(2, 264)] c (mH h v) (fun r c' h' => r = (0, (sp_cost W).2.1) ∧ c' = c ∧ ∃ w, h' = mH h w ∧ MdA w (sp_cost W).2.2) := by
  have hM0 := hM
  obtain ⟨hTx, hR, ⟨hI, bn, bT⟩, hH, hz, hSv⟩ := hM
  have r0 := hR.1
  have r1 := hR.2.1
  have ern := er_b (wN W) (wF W)
  have hNb := hTx.2.1
  show mv_Ev sc 170 0 [(2, 264)] [] c (mH h v) _
  have hK : (mv_m 170).1 = kc_Mod_wouldCost := rfl
  refine e_step (pc' := 1) hK rfl rfl rfl ?_
  refine e_cRV1 (z := 113) (pc' := 4) hK rfl rfl (by first | (simp (disch := omega) only [mH_t64, mH_r1, mH_r3, mH_r4, mH_r5, mH_r6, mH_r8, mH_r9, mH_r10, mH_r11, mH_r12, mH_r14, mH_i0, mH_i2, mH_i7, mH_i13, mH_i15, mH_t71, mH_t, mH_lr, mH_l65, mH_l69, mH_l70, mH_l71, mH_l72, mH_l73, mH_l74, mH_l75, mH_c]; rfl) | (show _ = 2; assumption) | (show _ = 1; assumption) | (show _ = 0; assumption) | (show _ = 3; assumption) | (show _ = 4; assumption)) rfl (Nat.le_of_ble_eq_true rfl) (Nat.le_of_ble_eq_true rfl) (m_wrong hTx) (by decide) rfl ?_
  try simp (disch := omega) only [mH_t64, mH_r1, mH_r3, mH_r4, mH_r5, mH_r6, mH_r8, mH_r9, mH_r10, mH_r11, mH_r12, mH_r14, mH_i0, mH_i2, mH_i7, mH_i13, mH_i15, mH_t71, mH_t, mH_lr, mH_l65, mH_l69, mH_l70, mH_l71, mH_l72, mH_l73, mH_l74, mH_l75, mH_c]
  refine e_step (pc' := 7) hK rfl rfl rfl ?_
  refine e_icmp (t := 14) (pc' := 10) hK rfl (by omega) (by omega) (by decide) rfl (fun hb7 => ?_) (fun hb7 => ?_)
  · replace hb7 := cq_eq.1.mp hb7
    have hokx : xok (wN W, wF W) := (er_ok hb7).1
    have hn40 : wN W ≤ 40 := (xn_b hokx).2.2.2
    refine e_step (pc' := 15) hK rfl rfl rfl ?_
    refine e_getR (ci := 4) (k := 3) (pc' := 18) hK rfl (by simp (disch := omega) only [mH_t64, mH_r1, mH_r3, mH_r4, mH_r5, mH_r6, mH_r8, mH_r9, mH_r10, mH_r11, mH_r12, mH_r14, mH_i0, mH_i2, mH_i7, mH_i13, mH_i15, mH_t71, mH_t, mH_lr, mH_l65, mH_l69, mH_l70, mH_l71, mH_l72, mH_l73, mH_l74, mH_l75, mH_c]) rfl rfl (by decide) (by decide) (by (try simp (disch := omega) only [mH_t64, mH_r1, mH_r3, mH_r4, mH_r5, mH_r6, mH_r8, mH_r9, mH_r10, mH_r11, mH_r12, mH_r14, mH_i0, mH_i2, mH_i7, mH_i13, mH_i15, mH_t71, mH_t, mH_lr, mH_l65, mH_l69, mH_l70, mH_l71, mH_l72, mH_l73, mH_l74, mH_l75, mH_c]); omega) rfl ?_
    try simp (disch := omega) only [mH_t64, mH_r1, mH_r3, mH_r4, mH_r5, mH_r6, mH_r8, mH_r9, mH_r10, mH_r11, mH_r12, mH_r14, mH_i0, mH_i2, mH_i7, mH_i13, mH_i15, mH_t71, mH_t, mH_lr, mH_l65, mH_l69, mH_l70, mH_l71, mH_l72, mH_l73, mH_l74, mH_l75, mH_c]
    refine e_step (pc' := 19) hK rfl rfl rfl ?_
    refine e_step (pc' := 20) hK rfl rfl rfl ?_
    refine e_getR (ci := 4) (k := 4) (pc' := 23) hK rfl (by simp (disch := omega) only [mH_t64, mH_r1, mH_r3, mH_r4, mH_r5, mH_r6, mH_r8, mH_r9, mH_r10, mH_r11, mH_r12, mH_r14, mH_i0, mH_i2, mH_i7, mH_i13, mH_i15, mH_t71, mH_t, mH_lr, mH_l65, mH_l69, mH_l70, mH_l71, mH_l72, mH_l73, mH_l74, mH_l75, mH_c]) rfl rfl (by decide) (by decide) (by (try simp (disch := omega) only [mH_t64, mH_r1, mH_r3, mH_r4, mH_r5, mH_r6, mH_r8, mH_r9, mH_r10, mH_r11, mH_r12, mH_r14, mH_i0, mH_i2, mH_i7, mH_i13, mH_i15, mH_t71, mH_t, mH_lr, mH_l65, mH_l69, mH_l70, mH_l71, mH_l72, mH_l73, mH_l74, mH_l75, mH_c]); omega) rfl ?_
    try simp (disch := omega) only [mH_t64, mH_r1, mH_r3, mH_r4, mH_r5, mH_r6, mH_r8, mH_r9, mH_r10, mH_r11, mH_r12, mH_r14, mH_i0, mH_i2, mH_i7, mH_i13, mH_i15, mH_t71, mH_t, mH_lr, mH_l65, mH_l69, mH_l70, mH_l71, mH_l72, mH_l73, mH_l74, mH_l75, mH_c]
    refine e_step (pc' := 24) hK rfl rfl rfl ?_
    refine e_cQS4 (z := 151) hK rfl rfl rfl (Nat.le_of_ble_eq_true rfl) (Nat.le_of_ble_eq_true rfl) (m_copyLog 266 0 267 0 (by omega) (by omega) (by omega) (by omega) (by omega) (by show (0 : Int) + 1221 ≤ 1221 ∧ (1221 : Int) ≤ 20000; omega) (by show (0 : Int) + 1221 ≤ 1221 ∧ (1221 : Int) ≤ 20000; omega)) ?_
    rintro _ _ _ ⟨rfl, rfl, y, rfl, hy, ry⟩
    refine ⟨by decide, ?_⟩
    rw [if_pos rfl]
    try dsimp only
    have hRt : Rw (y 267) (wA W) := Rw_ext hR hI (fun q q0 q1 => by { rw [ry q, if_pos (by omega)]; exact congrArg (v 266) (by omega) })
    have hMy : MdA y W := hM0.kq (fun b hb => hy b (by omega)) (congrFun (hy 264 (by omega)) 2) (congrFun (hy 264 (by omega)) 7)
    have rt0 := hRt.1
    show mv_Ev _ _ 27 _ _ _ _ _
    refine e_step (pc' := 28) hK rfl rfl rfl ?_
    refine e_step (pc' := 29) hK rfl rfl rfl ?_
    refine e_getR (ci := 4) (k := 4) (pc' := 32) hK rfl (by simp (disch := omega) only [mH_t64, mH_r1, mH_r3, mH_r4, mH_r5, mH_r6, mH_r8, mH_r9, mH_r10, mH_r11, mH_r12, mH_r14, mH_i0, mH_i2, mH_i7, mH_i13, mH_i15, mH_t71, mH_t, mH_lr, mH_l65, mH_l69, mH_l70, mH_l71, mH_l72, mH_l73, mH_l74, mH_l75, mH_c, rt0]) rfl rfl (by decide) (by decide) (by (try simp (disch := omega) only [mH_t64, mH_r1, mH_r3, mH_r4, mH_r5, mH_r6, mH_r8, mH_r9, mH_r10, mH_r11, mH_r12, mH_r14, mH_i0, mH_i2, mH_i7, mH_i13, mH_i15, mH_t71, mH_t, mH_lr, mH_l65, mH_l69, mH_l70, mH_l71, mH_l72, mH_l73, mH_l74, mH_l75, mH_c, rt0]); omega) rfl ?_
    try simp (disch := omega) only [mH_t64, mH_r1, mH_r3, mH_r4, mH_r5, mH_r6, mH_r8, mH_r9, mH_r10, mH_r11, mH_r12, mH_r14, mH_i0, mH_i2, mH_i7, mH_i13, mH_i15, mH_t71, mH_t, mH_lr, mH_l65, mH_l69, mH_l70, mH_l71, mH_l72, mH_l73, mH_l74, mH_l75, mH_c, rt0]
    refine e_cQV2 (z := 146) hK rfl rfl (by first | (simp (disch := omega) only [mH_t64, mH_r1, mH_r3, mH_r4, mH_r5, mH_r6, mH_r8, mH_r9, mH_r10, mH_r11, mH_r12, mH_r14, mH_i0, mH_i2, mH_i7, mH_i13, mH_i15, mH_t71, mH_t, mH_lr, mH_l65, mH_l69, mH_l70, mH_l71, mH_l72, mH_l73, mH_l74, mH_l75, mH_c, rt0]; rfl) | (show _ = 2; assumption) | (show _ = 1; assumption) | (show _ = 0; assumption) | (show _ = 3; assumption) | (show _ = 4; assumption)) rfl (Nat.le_of_ble_eq_true rfl) (Nat.le_of_ble_eq_true rfl) (m_layText 267 (by omega) hRt hI (wN W) (wF W) hMy.1.1 hn40 hMy.1.2.2.1 bn) ?_
    rintro _ _ _ ⟨rfl, rfl, a, rfl, ha, hl, hla⟩
    refine ⟨by decide, ?_⟩
    rw [if_pos rfl]
    try dsimp only
    have hRa : Rw (a 267) (wA W) := Rw_same hRt hI hla bn
    have hMa : MdA a W := hMy.kq (fun b hb => ha b (by omega)) (congrFun (ha 264 (by omega)) 2) (congrFun (ha 264 (by omega)) 7)
    have ra0 := hRa.1
    show mv_Ev _ _ 35 _ _ _ _ _
    refine e_step (pc' := 36) hK rfl rfl rfl ?_
    refine e_step (pc' := 37) hK rfl rfl rfl ?_
    refine e_getR (ci := 4) (k := 4) (pc' := 40) hK rfl (by simp (disch := omega) only [mH_t64, mH_r1, mH_r3, mH_r4, mH_r5, mH_r6, mH_r8, mH_r9, mH_r10, mH_r11, mH_r12, mH_r14, mH_i0, mH_i2, mH_i7, mH_i13, mH_i15, mH_t71, mH_t, mH_lr, mH_l65, mH_l69, mH_l70, mH_l71, mH_l72, mH_l73, mH_l74, mH_l75, mH_c, rt0, ra0]) rfl rfl (by decide) (by decide) (by (try simp (disch := omega) only [mH_t64, mH_r1, mH_r3, mH_r4, mH_r5, mH_r6, mH_r8, mH_r9, mH_r10, mH_r11, mH_r12, mH_r14, mH_i0, mH_i2, mH_i7, mH_i13, mH_i15, mH_t71, mH_t, mH_lr, mH_l65, mH_l69, mH_l70, mH_l71, mH_l72, mH_l73, mH_l74, mH_l75, mH_c, rt0, ra0]); omega) rfl ?_
    try simp (disch := omega) only [mH_t64, mH_r1, mH_r3, mH_r4, mH_r5, mH_r6, mH_r8, mH_r9, mH_r10, mH_r11, mH_r12, mH_r14, mH_i0, mH_i2, mH_i7, mH_i13, mH_i15, mH_t71, mH_t, mH_lr, mH_l65, mH_l69, mH_l70, mH_l71, mH_l72, mH_l73, mH_l74, mH_l75, mH_c, rt0, ra0]
    refine e_cQV2 (z := 152) hK rfl rfl (by first | (simp (disch := omega) only [mH_t64, mH_r1, mH_r3, mH_r4, mH_r5, mH_r6, mH_r8, mH_r9, mH_r10, mH_r11, mH_r12, mH_r14, mH_i0, mH_i2, mH_i7, mH_i13, mH_i15, mH_t71, mH_t, mH_lr, mH_l65, mH_l69, mH_l70, mH_l71, mH_l72, mH_l73, mH_l74, mH_l75, mH_c, rt0, ra0]; rfl) | (show _ = 2; assumption) | (show _ = 1; assumption) | (show _ = 0; assumption) | (show _ = 3; assumption) | (show _ = 4; assumption)) rfl (Nat.le_of_ble_eq_true rfl) (Nat.le_of_ble_eq_true rfl) (m_settle 267 (by omega) hRa hI hokx hl bn bT) ?_
    rintro _ _ _ ⟨rfl, rfl, u, rfl, hu, ru⟩
    refine ⟨by show (0 : Nat) ≠ 4; decide, ?_⟩
    rw [if_neg (by show ¬ (0 : Nat) = 3; decide)]
    try dsimp only
    have ru0 := ru.1
    show mv_Ev _ _ 43 _ _ _ _ _
    refine e_step (pc' := 44) hK rfl rfl rfl ?_
    refine e_step (pc' := 45) hK rfl rfl rfl ?_
    refine e_step (pc' := 46) hK rfl rfl rfl ?_
    refine e_getR (ci := 4) (k := 4) (pc' := 49) hK rfl (by simp (disch := omega) only [mH_t64, mH_r1, mH_r3, mH_r4, mH_r5, mH_r6, mH_r8, mH_r9, mH_r10, mH_r11, mH_r12, mH_r14, mH_i0, mH_i2, mH_i7, mH_i13, mH_i15, mH_t71, mH_t, mH_lr, mH_l65, mH_l69, mH_l70, mH_l71, mH_l72, mH_l73, mH_l74, mH_l75, mH_c, rt0, ra0, ru0]) rfl rfl (by decide) (by decide) (by (try simp (disch := omega) only [mH_t64, mH_r1, mH_r3, mH_r4, mH_r5, mH_r6, mH_r8, mH_r9, mH_r10, mH_r11, mH_r12, mH_r14, mH_i0, mH_i2, mH_i7, mH_i13, mH_i15, mH_t71, mH_t, mH_lr, mH_l65, mH_l69, mH_l70, mH_l71, mH_l72, mH_l73, mH_l74, mH_l75, mH_c, rt0, ra0, ru0]); omega) rfl ?_
    try simp (disch := omega) only [mH_t64, mH_r1, mH_r3, mH_r4, mH_r5, mH_r6, mH_r8, mH_r9, mH_r10, mH_r11, mH_r12, mH_r14, mH_i0, mH_i2, mH_i7, mH_i13, mH_i15, mH_t71, mH_t, mH_lr, mH_l65, mH_l69, mH_l70, mH_l71, mH_l72, mH_l73, mH_l74, mH_l75, mH_c, rt0, ra0, ru0]
    refine e_step (pc' := 50) hK rfl rfl rfl ?_
    refine e_getR (ci := 4) (k := 4) (pc' := 53) hK rfl (by simp (disch := omega) only [mH_t64, mH_r1, mH_r3, mH_r4, mH_r5, mH_r6, mH_r8, mH_r9, mH_r10, mH_r11, mH_r12, mH_r14, mH_i0, mH_i2, mH_i7, mH_i13, mH_i15, mH_t71, mH_t, mH_lr, mH_l65, mH_l69, mH_l70, mH_l71, mH_l72, mH_l73, mH_l74, mH_l75, mH_c, rt0, ra0, ru0]) rfl rfl (by decide) (by decide) (by (try simp (disch := omega) only [mH_t64, mH_r1, mH_r3, mH_r4, mH_r5, mH_r6, mH_r8, mH_r9, mH_r10, mH_r11, mH_r12, mH_r14, mH_i0, mH_i2, mH_i7, mH_i13, mH_i15, mH_t71, mH_t, mH_lr, mH_l65, mH_l69, mH_l70, mH_l71, mH_l72, mH_l73, mH_l74, mH_l75, mH_c, rt0, ra0, ru0]); omega) rfl ?_
    try simp (disch := omega) only [mH_t64, mH_r1, mH_r3, mH_r4, mH_r5, mH_r6, mH_r8, mH_r9, mH_r10, mH_r11, mH_r12, mH_r14, mH_i0, mH_i2, mH_i7, mH_i13, mH_i15, mH_t71, mH_t, mH_lr, mH_l65, mH_l69, mH_l70, mH_l71, mH_l72, mH_l73, mH_l74, mH_l75, mH_c, rt0, ra0, ru0]
    refine e_step (pc' := 54) hK rfl rfl rfl ?_
    refine e_iald (pc' := 55) hK rfl (by simp (disch := omega) only [mH_t64, mH_r1, mH_r3, mH_r4, mH_r5, mH_r6, mH_r8, mH_r9, mH_r10, mH_r11, mH_r12, mH_r14, mH_i0, mH_i2, mH_i7, mH_i13, mH_i15, mH_t71, mH_t, mH_lr, mH_l65, mH_l69, mH_l70, mH_l71, mH_l72, mH_l73, mH_l74, mH_l75, mH_c, rt0, ra0, ru0]) (by omega) (by (try simp (disch := omega) only [mH_t64, mH_r1, mH_r3, mH_r4, mH_r5, mH_r6, mH_r8, mH_r9, mH_r10, mH_r11, mH_r12, mH_r14, mH_i0, mH_i2, mH_i7, mH_i13, mH_i15, mH_t71, mH_t, mH_lr, mH_l65, mH_l69, mH_l70, mH_l71, mH_l72, mH_l73, mH_l74, mH_l75, mH_c, rt0, ra0, ru0]); omega) rfl ?_
    try simp (disch := omega) only [mH_t64, mH_r1, mH_r3, mH_r4, mH_r5, mH_r6, mH_r8, mH_r9, mH_r10, mH_r11, mH_r12, mH_r14, mH_i0, mH_i2, mH_i7, mH_i13, mH_i15, mH_t71, mH_t, mH_lr, mH_l65, mH_l69, mH_l70, mH_l71, mH_l72, mH_l73, mH_l74, mH_l75, mH_c, rt0, ra0, ru0]
    refine e_step (pc' := 56) hK rfl rfl rfl ?_
    refine e_step (pc' := 57) hK rfl rfl rfl ?_
    have es1 : (gn (gpu (wA W) (wN W, wF W) (gnw (wA W) (wN W, wF W))) : Int) - 1 = gn (wA W) := by { rw [gpu_n]; omega }
    rw [es1]
    refine e_cQV3 (z := 118) hK rfl rfl (by first | (simp (disch := omega) only [mH_t64, mH_r1, mH_r3, mH_r4, mH_r5, mH_r6, mH_r8, mH_r9, mH_r10, mH_r11, mH_r12, mH_r14, mH_i0, mH_i2, mH_i7, mH_i13, mH_i15, mH_t71, mH_t, mH_lr, mH_l65, mH_l69, mH_l70, mH_l71, mH_l72, mH_l73, mH_l74, mH_l75, mH_c, rt0, ra0, ru0]; rfl) | (show _ = 2; assumption) | (show _ = 1; assumption) | (show _ = 0; assumption) | (show _ = 3; assumption) | (show _ = 4; assumption)) rfl (Nat.le_of_ble_eq_true rfl) (Nat.le_of_ble_eq_true rfl) (m_costLine 267 (by omega) ru (gI_put hI hokx bn bT) (gnw (wA W) (wN W, wF W)) (gn (wA W)) (by omega) (by rw [gpu_n]; omega) (by rw [gpu_P, if_pos rfl])) ?_
    rintro _ _ _ ⟨rfl, rfl, w, rfl, hw⟩
    refine ⟨by show (0 : Nat) ≠ 4; decide, ?_⟩
    rw [if_neg (by show ¬ (0 : Nat) = 3; decide)]
    try dsimp only
    show mv_Ev _ _ 60 _ _ _ _ _
    refine e_ret hK rfl rfl rfl ?_
    have hMu : MdA u W := hMa.kq (fun b hb => hu b (by omega) (by omega) (by omega) (by omega)) (congrFun (hu 264 (by omega) (by omega) (by omega) (by omega)) 2) (congrFun (hu 264 (by omega) (by omega) (by omega) (by omega)) 7)
    refine ⟨?_, rfl, w, rfl, hMu.ms hw⟩
    show (0, _) = (0, if _ then _ else _)
    rw [if_pos hb7, gpu_L, if_pos rfl, col_put hI]
  · replace hb7 := cq_eq.2.mp hb7
    refine e_step (pc' := 13) hK rfl rfl rfl ?_
    refine e_ret hK rfl rfl rfl ?_
    refine ⟨?_, rfl, v, rfl, hM0⟩
    show (0, _) = (0, if _ then _ else _)
    rw [if_neg hb7]
set_option maxRecDepth 10000 in
theorem g_saves {W : wt} (hM : MdA v W) : mv_Cl sc q_Mod_saves [(2, 264)] c (mH h v) (fun r c' h' => r = (0, (sp_saves W).2.1) ∧ c' = c ∧ ∃ w, h' = mH h w ∧ MdA w (sp_saves W).2.2) := by
  have hM0 := hM
  obtain ⟨hTx, hR, ⟨hI, bn, bT⟩, hH, hz, hSv⟩ := hM
  have r0 := hR.1
  have r1 := hR.2.1
  show mv_Ev sc 171 0 [(2, 264)] [] c (mH h v) _
  have hK : (mv_m 171).1 = kc_Mod_saves := rfl
  refine e_step (pc' := 1) hK rfl rfl rfl ?_
  refine e_getR (ci := 4) (k := 3) (pc' := 4) hK rfl (by simp (disch := omega) only [mH_t64, mH_r1, mH_r3, mH_r4, mH_r5, mH_r6, mH_r8, mH_r9, mH_r10, mH_r11, mH_r12, mH_r14, mH_i0, mH_i2, mH_i7, mH_i13, mH_i15, mH_t71, mH_t, mH_lr, mH_l65, mH_l69, mH_l70, mH_l71, mH_l72, mH_l73, mH_l74, mH_l75, mH_c]) rfl rfl (by decide) (by decide) (by (try simp (disch := omega) only [mH_t64, mH_r1, mH_r3, mH_r4, mH_r5, mH_r6, mH_r8, mH_r9, mH_r10, mH_r11, mH_r12, mH_r14, mH_i0, mH_i2, mH_i7, mH_i13, mH_i15, mH_t71, mH_t, mH_lr, mH_l65, mH_l69, mH_l70, mH_l71, mH_l72, mH_l73, mH_l74, mH_l75, mH_c]); first | omega | (have q9 := glt_b (wA W); unfold glv; split <;> omega)) rfl ?_
  try simp (disch := omega) only [mH_t64, mH_r1, mH_r3, mH_r4, mH_r5, mH_r6, mH_r8, mH_r9, mH_r10, mH_r11, mH_r12, mH_r14, mH_i0, mH_i2, mH_i7, mH_i13, mH_i15, mH_t71, mH_t, mH_lr, mH_l65, mH_l69, mH_l70, mH_l71, mH_l72, mH_l73, mH_l74, mH_l75, mH_c]
  refine e_step (pc' := 5) hK rfl rfl rfl ?_
  refine e_step (pc' := 6) hK rfl rfl rfl ?_
  refine e_getR (ci := 4) (k := 4) (pc' := 9) hK rfl (by simp (disch := omega) only [mH_t64, mH_r1, mH_r3, mH_r4, mH_r5, mH_r6, mH_r8, mH_r9, mH_r10, mH_r11, mH_r12, mH_r14, mH_i0, mH_i2, mH_i7, mH_i13, mH_i15, mH_t71, mH_t, mH_lr, mH_l65, mH_l69, mH_l70, mH_l71, mH_l72, mH_l73, mH_l74, mH_l75, mH_c]) rfl rfl (by decide) (by decide) (by (try simp (disch := omega) only [mH_t64, mH_r1, mH_r3, mH_r4, mH_r5, mH_r6, mH_r8, mH_r9, mH_r10, mH_r11, mH_r12, mH_r14, mH_i0, mH_i2, mH_i7, mH_i13, mH_i15, mH_t71, mH_t, mH_lr, mH_l65, mH_l69, mH_l70, mH_l71, mH_l72, mH_l73, mH_l74, mH_l75, mH_c]); first | omega | (have q9 := glt_b (wA W); unfold glv; split <;> omega)) rfl ?_
  try simp (disch := omega) only [mH_t64, mH_r1, mH_r3, mH_r4, mH_r5, mH_r6, mH_r8, mH_r9, mH_r10, mH_r11, mH_r12, mH_r14, mH_i0, mH_i2, mH_i7, mH_i13, mH_i15, mH_t71, mH_t, mH_lr, mH_l65, mH_l69, mH_l70, mH_l71, mH_l72, mH_l73, mH_l74, mH_l75, mH_c]
  refine e_step (pc' := 10) hK rfl rfl rfl ?_
  refine e_cQS4 (z := 151) hK rfl rfl rfl (Nat.le_of_ble_eq_true rfl) (Nat.le_of_ble_eq_true rfl) (m_copyLog 266 0 267 0 (by omega) (by omega) (by omega) (by omega) (by omega) (by show (0 : Int) + 1221 ≤ 1221 ∧ (1221 : Int) ≤ 20000; omega) (by show (0 : Int) + 1221 ≤ 1221 ∧ (1221 : Int) ≤ 20000; omega)) ?_
  rintro _ _ _ ⟨rfl, rfl, y, rfl, hy, ry⟩
  refine ⟨by decide, ?_⟩
  rw [if_pos rfl]
  try dsimp only
  have hRt : Rw (y 267) (wA W) := Rw_ext hR hI (fun q q0 q1 => by { rw [ry q, if_pos (by omega)]; exact congrArg (v 266) (by omega) })
  have hMy : MdA y W := hM0.kq (fun b hb => hy b (by omega)) (congrFun (hy 264 (by omega)) 2) (congrFun (hy 264 (by omega)) 7)
  have rt0 := hRt.1
  show mv_Ev _ _ 13 _ _ _ _ _
  refine e_step (pc' := 14) hK rfl rfl rfl ?_
  refine e_step (pc' := 15) hK rfl rfl rfl ?_
  refine e_getR (ci := 4) (k := 4) (pc' := 18) hK rfl (by simp (disch := omega) only [mH_t64, mH_r1, mH_r3, mH_r4, mH_r5, mH_r6, mH_r8, mH_r9, mH_r10, mH_r11, mH_r12, mH_r14, mH_i0, mH_i2, mH_i7, mH_i13, mH_i15, mH_t71, mH_t, mH_lr, mH_l65, mH_l69, mH_l70, mH_l71, mH_l72, mH_l73, mH_l74, mH_l75, mH_c, rt0]) rfl rfl (by decide) (by decide) (by (try simp (disch := omega) only [mH_t64, mH_r1, mH_r3, mH_r4, mH_r5, mH_r6, mH_r8, mH_r9, mH_r10, mH_r11, mH_r12, mH_r14, mH_i0, mH_i2, mH_i7, mH_i13, mH_i15, mH_t71, mH_t, mH_lr, mH_l65, mH_l69, mH_l70, mH_l71, mH_l72, mH_l73, mH_l74, mH_l75, mH_c, rt0]); first | omega | (have q9 := glt_b (wA W); unfold glv; split <;> omega)) rfl ?_
  try simp (disch := omega) only [mH_t64, mH_r1, mH_r3, mH_r4, mH_r5, mH_r6, mH_r8, mH_r9, mH_r10, mH_r11, mH_r12, mH_r14, mH_i0, mH_i2, mH_i7, mH_i13, mH_i15, mH_t71, mH_t, mH_lr, mH_l65, mH_l69, mH_l70, mH_l71, mH_l72, mH_l73, mH_l74, mH_l75, mH_c, rt0]
  refine e_cQV2 (z := 161) hK rfl rfl (by first | (simp (disch := omega) only [mH_t64, mH_r1, mH_r3, mH_r4, mH_r5, mH_r6, mH_r8, mH_r9, mH_r10, mH_r11, mH_r12, mH_r14, mH_i0, mH_i2, mH_i7, mH_i13, mH_i15, mH_t71, mH_t, mH_lr, mH_l65, mH_l69, mH_l70, mH_l71, mH_l72, mH_l73, mH_l74, mH_l75, mH_c, rt0]; rfl) | (show _ = 2; assumption) | (show _ = 1; assumption) | (show _ = 0; assumption) | (show _ = 3; assumption) | (show _ = 4; assumption)) rfl (Nat.le_of_ble_eq_true rfl) (Nat.le_of_ble_eq_true rfl) (m_learnOn 267 (by omega) hRt hI) ?_
  rintro _ _ _ ⟨rfl, rfl, u, rfl, hu, ru⟩
  refine ⟨by show (0 : Nat) ≠ 4; decide, ?_⟩
  rw [if_neg (by show ¬ (0 : Nat) = 3; decide)]
  try dsimp only
  have hMu : MdA u W := hMy.kq (fun b hb => hu b (by omega) (by omega) (by omega) (by omega)) (congrFun (hu 264 (by omega) (by omega) (by omega) (by omega)) 2) (congrFun (hu 264 (by omega) (by omega) (by omega) (by omega)) 7)
  show mv_Ev _ _ 21 _ _ _ _ _
  refine e_step (pc' := 24) hK rfl rfl rfl ?_
  refine e_icmp (t := 31) (pc' := 27) hK rfl (by first | omega | (have q9 := glt_b (wA W); unfold glv; split <;> omega)) (by first | omega | (have q9 := glt_b (wA W); unfold glv; split <;> omega)) (by decide) rfl (fun hb24 => ?_) (fun hb24 => ?_)
  · replace hb24 := cq_ne.1.mp hb24
    refine e_step (pc' := 32) hK rfl rfl rfl ?_
    refine e_step (pc' := 33) hK rfl rfl rfl ?_
    refine e_getR (ci := 4) (k := 3) (pc' := 36) hK rfl (by simp (disch := omega) only [mH_t64, mH_r1, mH_r3, mH_r4, mH_r5, mH_r6, mH_r8, mH_r9, mH_r10, mH_r11, mH_r12, mH_r14, mH_i0, mH_i2, mH_i7, mH_i13, mH_i15, mH_t71, mH_t, mH_lr, mH_l65, mH_l69, mH_l70, mH_l71, mH_l72, mH_l73, mH_l74, mH_l75, mH_c, rt0]) rfl rfl (by decide) (by decide) (by (try simp (disch := omega) only [mH_t64, mH_r1, mH_r3, mH_r4, mH_r5, mH_r6, mH_r8, mH_r9, mH_r10, mH_r11, mH_r12, mH_r14, mH_i0, mH_i2, mH_i7, mH_i13, mH_i15, mH_t71, mH_t, mH_lr, mH_l65, mH_l69, mH_l70, mH_l71, mH_l72, mH_l73, mH_l74, mH_l75, mH_c, rt0]); first | omega | (have q9 := glt_b (wA W); unfold glv; split <;> omega)) rfl ?_
    try simp (disch := omega) only [mH_t64, mH_r1, mH_r3, mH_r4, mH_r5, mH_r6, mH_r8, mH_r9, mH_r10, mH_r11, mH_r12, mH_r14, mH_i0, mH_i2, mH_i7, mH_i13, mH_i15, mH_t71, mH_t, mH_lr, mH_l65, mH_l69, mH_l70, mH_l71, mH_l72, mH_l73, mH_l74, mH_l75, mH_c, rt0]
    refine e_cQV2 (z := 117) hK rfl rfl (by first | (simp (disch := omega) only [mH_t64, mH_r1, mH_r3, mH_r4, mH_r5, mH_r6, mH_r8, mH_r9, mH_r10, mH_r11, mH_r12, mH_r14, mH_i0, mH_i2, mH_i7, mH_i13, mH_i15, mH_t71, mH_t, mH_lr, mH_l65, mH_l69, mH_l70, mH_l71, mH_l72, mH_l73, mH_l74, mH_l75, mH_c, rt0]; rfl) | (show _ = 2; assumption) | (show _ = 1; assumption) | (show _ = 0; assumption) | (show _ = 3; assumption) | (show _ = 4; assumption)) rfl (Nat.le_of_ble_eq_true rfl) (Nat.le_of_ble_eq_true rfl) (m_costLines 266 (by omega) hMu.2.1 hI) ?_
    rintro _ _ _ ⟨rfl, rfl, w, rfl, hw⟩
    refine ⟨by show (0 : Nat) ≠ 4; decide, ?_⟩
    rw [if_neg (by show ¬ (0 : Nat) = 3; decide)]
    try dsimp only
    have hMw := hMu.ms hw
    have ruw : Rw (w 267) (gle (wA W)) := by { rw [hw 267 (by omega) (by omega) (by omega)]; exact ru }
    show mv_Ev _ _ 39 _ _ _ _ _
    refine e_step (pc' := 40) hK rfl rfl rfl ?_
    refine e_step (pc' := 41) hK rfl rfl rfl ?_
    refine e_getR (ci := 4) (k := 3) (pc' := 44) hK rfl (by simp (disch := omega) only [mH_t64, mH_r1, mH_r3, mH_r4, mH_r5, mH_r6, mH_r8, mH_r9, mH_r10, mH_r11, mH_r12, mH_r14, mH_i0, mH_i2, mH_i7, mH_i13, mH_i15, mH_t71, mH_t, mH_lr, mH_l65, mH_l69, mH_l70, mH_l71, mH_l72, mH_l73, mH_l74, mH_l75, mH_c, rt0]) rfl rfl (by decide) (by decide) (by (try simp (disch := omega) only [mH_t64, mH_r1, mH_r3, mH_r4, mH_r5, mH_r6, mH_r8, mH_r9, mH_r10, mH_r11, mH_r12, mH_r14, mH_i0, mH_i2, mH_i7, mH_i13, mH_i15, mH_t71, mH_t, mH_lr, mH_l65, mH_l69, mH_l70, mH_l71, mH_l72, mH_l73, mH_l74, mH_l75, mH_c, rt0]); first | omega | (have q9 := glt_b (wA W); unfold glv; split <;> omega)) rfl ?_
    try simp (disch := omega) only [mH_t64, mH_r1, mH_r3, mH_r4, mH_r5, mH_r6, mH_r8, mH_r9, mH_r10, mH_r11, mH_r12, mH_r14, mH_i0, mH_i2, mH_i7, mH_i13, mH_i15, mH_t71, mH_t, mH_lr, mH_l65, mH_l69, mH_l70, mH_l71, mH_l72, mH_l73, mH_l74, mH_l75, mH_c, rt0]
    refine e_cQV2 (z := 127) hK rfl rfl (by first | (simp (disch := omega) only [mH_t64, mH_r1, mH_r3, mH_r4, mH_r5, mH_r6, mH_r8, mH_r9, mH_r10, mH_r11, mH_r12, mH_r14, mH_i0, mH_i2, mH_i7, mH_i13, mH_i15, mH_t71, mH_t, mH_lr, mH_l65, mH_l69, mH_l70, mH_l71, mH_l72, mH_l73, mH_l74, mH_l75, mH_c, rt0]; rfl) | (show _ = 2; assumption) | (show _ = 1; assumption) | (show _ = 0; assumption) | (show _ = 3; assumption) | (show _ = 4; assumption)) rfl (Nat.le_of_ble_eq_true rfl) (Nat.le_of_ble_eq_true rfl) (m_costTemps 266 (by omega) hMw.2.1 hI) ?_
    rintro _ _ _ ⟨rfl, rfl, w2, rfl, hw2⟩
    refine ⟨by show (0 : Nat) ≠ 4; decide, ?_⟩
    rw [if_neg (by show ¬ (0 : Nat) = 3; decide)]
    try dsimp only
    have hMw2 := hMw.ms hw2
    have ruw2 : Rw (w2 267) (gle (wA W)) := by { rw [hw2 267 (by omega) (by omega) (by omega)]; exact ruw }
    show mv_Ev _ _ 47 _ _ _ _ _
    refine e_step (pc' := 48) hK rfl rfl rfl ?_
    refine e_step (pc' := 49) hK rfl rfl rfl ?_
    refine e_step (pc' := 50) hK rfl rfl rfl ?_
    refine e_getR (ci := 4) (k := 4) (pc' := 53) hK rfl (by simp (disch := omega) only [mH_t64, mH_r1, mH_r3, mH_r4, mH_r5, mH_r6, mH_r8, mH_r9, mH_r10, mH_r11, mH_r12, mH_r14, mH_i0, mH_i2, mH_i7, mH_i13, mH_i15, mH_t71, mH_t, mH_lr, mH_l65, mH_l69, mH_l70, mH_l71, mH_l72, mH_l73, mH_l74, mH_l75, mH_c, rt0]) rfl rfl (by decide) (by decide) (by (try simp (disch := omega) only [mH_t64, mH_r1, mH_r3, mH_r4, mH_r5, mH_r6, mH_r8, mH_r9, mH_r10, mH_r11, mH_r12, mH_r14, mH_i0, mH_i2, mH_i7, mH_i13, mH_i15, mH_t71, mH_t, mH_lr, mH_l65, mH_l69, mH_l70, mH_l71, mH_l72, mH_l73, mH_l74, mH_l75, mH_c, rt0]); first | omega | (have q9 := glt_b (wA W); unfold glv; split <;> omega)) rfl ?_
    try simp (disch := omega) only [mH_t64, mH_r1, mH_r3, mH_r4, mH_r5, mH_r6, mH_r8, mH_r9, mH_r10, mH_r11, mH_r12, mH_r14, mH_i0, mH_i2, mH_i7, mH_i13, mH_i15, mH_t71, mH_t, mH_lr, mH_l65, mH_l69, mH_l70, mH_l71, mH_l72, mH_l73, mH_l74, mH_l75, mH_c, rt0]
    refine e_cQV2 (z := 117) hK rfl rfl (by first | (simp (disch := omega) only [mH_t64, mH_r1, mH_r3, mH_r4, mH_r5, mH_r6, mH_r8, mH_r9, mH_r10, mH_r11, mH_r12, mH_r14, mH_i0, mH_i2, mH_i7, mH_i13, mH_i15, mH_t71, mH_t, mH_lr, mH_l65, mH_l69, mH_l70, mH_l71, mH_l72, mH_l73, mH_l74, mH_l75, mH_c, rt0]; rfl) | (show _ = 2; assumption) | (show _ = 1; assumption) | (show _ = 0; assumption) | (show _ = 3; assumption) | (show _ = 4; assumption)) rfl (Nat.le_of_ble_eq_true rfl) (Nat.le_of_ble_eq_true rfl) (m_costLines 267 (by omega) ruw2 (gI_gle hI)) ?_
    rintro _ _ _ ⟨rfl, rfl, w3, rfl, hw3⟩
    refine ⟨by show (0 : Nat) ≠ 4; decide, ?_⟩
    rw [if_neg (by show ¬ (0 : Nat) = 3; decide)]
    try dsimp only
    have hMw3 := hMw2.ms hw3
    have ruw3 : Rw (w3 267) (gle (wA W)) := by { rw [hw3 267 (by omega) (by omega) (by omega)]; exact ruw2 }
    show mv_Ev _ _ 56 _ _ _ _ _
    refine e_step (pc' := 57) hK rfl rfl rfl ?_
    refine e_step (pc' := 58) hK rfl rfl rfl ?_
    refine e_step (pc' := 59) hK rfl rfl rfl ?_
    refine e_getR (ci := 4) (k := 4) (pc' := 62) hK rfl (by simp (disch := omega) only [mH_t64, mH_r1, mH_r3, mH_r4, mH_r5, mH_r6, mH_r8, mH_r9, mH_r10, mH_r11, mH_r12, mH_r14, mH_i0, mH_i2, mH_i7, mH_i13, mH_i15, mH_t71, mH_t, mH_lr, mH_l65, mH_l69, mH_l70, mH_l71, mH_l72, mH_l73, mH_l74, mH_l75, mH_c, rt0]) rfl rfl (by decide) (by decide) (by (try simp (disch := omega) only [mH_t64, mH_r1, mH_r3, mH_r4, mH_r5, mH_r6, mH_r8, mH_r9, mH_r10, mH_r11, mH_r12, mH_r14, mH_i0, mH_i2, mH_i7, mH_i13, mH_i15, mH_t71, mH_t, mH_lr, mH_l65, mH_l69, mH_l70, mH_l71, mH_l72, mH_l73, mH_l74, mH_l75, mH_c, rt0]); first | omega | (have q9 := glt_b (wA W); unfold glv; split <;> omega)) rfl ?_
    try simp (disch := omega) only [mH_t64, mH_r1, mH_r3, mH_r4, mH_r5, mH_r6, mH_r8, mH_r9, mH_r10, mH_r11, mH_r12, mH_r14, mH_i0, mH_i2, mH_i7, mH_i13, mH_i15, mH_t71, mH_t, mH_lr, mH_l65, mH_l69, mH_l70, mH_l71, mH_l72, mH_l73, mH_l74, mH_l75, mH_c, rt0]
    refine e_cQV2 (z := 127) hK rfl rfl (by first | (simp (disch := omega) only [mH_t64, mH_r1, mH_r3, mH_r4, mH_r5, mH_r6, mH_r8, mH_r9, mH_r10, mH_r11, mH_r12, mH_r14, mH_i0, mH_i2, mH_i7, mH_i13, mH_i15, mH_t71, mH_t, mH_lr, mH_l65, mH_l69, mH_l70, mH_l71, mH_l72, mH_l73, mH_l74, mH_l75, mH_c, rt0]; rfl) | (show _ = 2; assumption) | (show _ = 1; assumption) | (show _ = 0; assumption) | (show _ = 3; assumption) | (show _ = 4; assumption)) rfl (Nat.le_of_ble_eq_true rfl) (Nat.le_of_ble_eq_true rfl) (m_costTemps 267 (by omega) ruw3 (gI_gle hI)) ?_
    rintro _ _ _ ⟨rfl, rfl, w4, rfl, hw4⟩
    refine ⟨by show (0 : Nat) ≠ 4; decide, ?_⟩
    rw [if_neg (by show ¬ (0 : Nat) = 3; decide)]
    try dsimp only
    show mv_Ev _ _ 65 _ _ _ _ _
    refine e_step (pc' := 66) hK rfl rfl rfl ?_
    refine e_ret hK rfl rfl rfl ?_
    refine ⟨?_, rfl, w4, rfl, hMw3.ms hw4⟩
    show (0, _) = (0, if _ then _ else _)
    rw [if_neg hb24]
    unfold cal
    congr 1
    omega
  · replace hb24 := cq_ne.2.mp hb24
    refine e_step (pc' := 30) hK rfl rfl rfl ?_
    refine e_ret hK rfl rfl rfl ?_
    refine ⟨?_, rfl, u, rfl, hMu⟩
    show (0, _) = (0, if _ then _ else _)
    rw [if_pos hb24]
set_option maxRecDepth 10000 in
theorem g_save {W : wt} (hM : MdA v W) (s : Int) (hs : mv_i s) : mv_Cl sc q_Mod_save [(2, 264), (0, s)] c (mH h v) (fun r c' h' => r = (0, (sp_save W s).2.1) ∧ c' = c ∧ ∃ w, h' = mH h w ∧ MdA w (sp_save W s).2.2 ∧ w 264 0 = (sp_save W s).1) := by
  have hM0 := hM
  obtain ⟨hTx, hR, ⟨hI, bn, bT⟩, hH, hz, hSv⟩ := hM
  have r0 := hR.1
  have r1 := hR.2.1
  show mv_Ev sc 183 0 [(2, 264), (0, s)] [] c (mH h v) _
  have hK : (mv_m 183).1 = kc_Mod_save := rfl
  refine e_step (pc' := 1) hK rfl rfl rfl ?_
  refine e_step (pc' := 2) hK rfl rfl rfl ?_
  refine e_i2l (pc' := 3) hK rfl (by first | omega | exact bo_i _) rfl ?_
  refine e_step (pc' := 4) hK rfl rfl rfl ?_
  show mv_Ev _ _ 4 _ ((1, (0 : Int)) :: _) _ _ _
  refine e_step (pc' := 5) hK rfl rfl rfl ?_
  show mv_Ev _ _ 5 _ ((1, (1 : Int)) :: _) _ _ _
  refine e_cRS3 (z := 109) (pc' := 8) hK rfl rfl rfl (Nat.le_of_ble_eq_true rfl) (Nat.le_of_ble_eq_true rfl) (m_in s 0 1 (by omega) (by omega) (by omega)) (by decide) rfl ?_
  try simp (disch := omega) only [mH_t64, mH_r1, mH_r3, mH_r4, mH_r5, mH_r6, mH_r8, mH_r9, mH_r10, mH_r11, mH_r12, mH_r14, mH_i0, mH_i2, mH_i7, mH_i13, mH_i15, mH_t71, mH_t, mH_lr, mH_l65, mH_l69, mH_l70, mH_l71, mH_l72, mH_l73, mH_l74, mH_l75, mH_c]
  refine e_if (t := 15) (pc' := 11) hK rfl (by first | omega | exact bo_i _) (by decide) rfl (fun hb8 => ?_) (fun hb8 => ?_)
  · replace hb8 := cq_eq.1.mp hb8
    try simp only [bo_0, Bool.not_eq_false] at hb8
    simp only [Bool.and_eq_false_iff, decide_eq_false_iff_not] at hb8
    refine e_step (pc' := 16) hK rfl rfl rfl ?_
    refine e_cQV2 (z := 110) hK rfl rfl (by first | (simp (disch := omega) only [mH_t64, mH_r1, mH_r3, mH_r4, mH_r5, mH_r6, mH_r8, mH_r9, mH_r10, mH_r11, mH_r12, mH_r14, mH_i0, mH_i2, mH_i7, mH_i13, mH_i15, mH_t71, mH_t, mH_lr, mH_l65, mH_l69, mH_l70, mH_l71, mH_l72, mH_l73, mH_l74, mH_l75, mH_c]; rfl) | (show _ = 2; assumption) | (show _ = 1; assumption) | (show _ = 0; assumption) | (show _ = 3; assumption) | (show _ = 4; assumption)) rfl (Nat.le_of_ble_eq_true rfl) (Nat.le_of_ble_eq_true rfl) (m_refP 1 (by omega)) ?_
    rintro _ _ _ ⟨rfl, rfl, rfl⟩
    refine ⟨by show (0 : Nat) ≠ 4; decide, ?_⟩
    rw [if_neg (by show ¬ (0 : Nat) = 3; decide)]
    try dsimp only
    have hM1 := hM0.rf 1
    obtain ⟨v1, hv1⟩ : ∃ v1, v1 = gu v 264 (mv_up (v 264) 0 1) := ⟨_, rfl⟩
    rw [← hv1] at hM1 ⊢
    have z1 : v1 264 0 = 1 := by { rw [hv1, gu_s, up_s] }
    have eo1 : ∀ b : Int, b ≠ 264 → v1 b = v b := fun b hb => by { rw [hv1]; exact gu_n hb }
    have ef1 : ∀ k : Int, k ≠ 0 → v1 264 k = v 264 k := fun k hk => by { rw [hv1, gu_s, up_n hk] }
    have hR1 := hM1.2.1
    have ra1 := hR1.1
    have rb1 := hR1.2.1
    clear hv1
    show mv_Ev _ _ 19 _ _ _ _ _
    refine e_if (t := 24) (pc' := 22) hK rfl (by first | omega | exact bo_i _) (by decide) rfl (fun hb19 => ?_) (fun hb19 => ?_)
    · replace hb19 := cq_eq.1.mp hb19
      try simp only [bo_0, Bool.not_eq_false] at hb19
      exfalso; first | omega | exact absurd trivial (by assumption) | (first | omega | exact bo_i _)
    · replace hb19 := cq_eq.2.mp hb19
      try simp only [bo_0, Bool.not_eq_false] at hb19
      refine e_step (pc' := 23) hK rfl rfl rfl ?_
      refine e_ret hK rfl rfl rfl ?_
      have e9 : sp_save W s = (1, 0, W) := by { unfold sp_save; (repeat (first | rw [if_pos (by omega)] | rw [if_neg (by omega)])) }
      rw [e9]
      exact ⟨rfl, rfl, v1, rfl, hM1, z1⟩
  · replace hb8 := cq_eq.2.mp hb8
    try simp only [bo_0, Bool.not_eq_false] at hb8
    simp only [Bool.and_eq_true, decide_eq_true_eq] at hb8
    refine e_step (pc' := 12) hK rfl rfl rfl ?_
    refine e_goto (t := 16) hK rfl (by decide) ?_
    refine e_cQV2 (z := 110) hK rfl rfl (by first | (simp (disch := omega) only [mH_t64, mH_r1, mH_r3, mH_r4, mH_r5, mH_r6, mH_r8, mH_r9, mH_r10, mH_r11, mH_r12, mH_r14, mH_i0, mH_i2, mH_i7, mH_i13, mH_i15, mH_t71, mH_t, mH_lr, mH_l65, mH_l69, mH_l70, mH_l71, mH_l72, mH_l73, mH_l74, mH_l75, mH_c]; rfl) | (show _ = 2; assumption) | (show _ = 1; assumption) | (show _ = 0; assumption) | (show _ = 3; assumption) | (show _ = 4; assumption)) rfl (Nat.le_of_ble_eq_true rfl) (Nat.le_of_ble_eq_true rfl) (m_ref0) ?_
    rintro _ _ _ ⟨rfl, rfl, rfl⟩
    refine ⟨by show (0 : Nat) ≠ 4; decide, ?_⟩
    rw [if_neg (by show ¬ (0 : Nat) = 3; decide)]
    try dsimp only
    have hM1 := hM0.rf 0
    obtain ⟨v1, hv1⟩ : ∃ v1, v1 = gu v 264 (mv_up (v 264) 0 0) := ⟨_, rfl⟩
    rw [← hv1] at hM1 ⊢
    have z1 : v1 264 0 = 0 := by { rw [hv1, gu_s, up_s] }
    have eo1 : ∀ b : Int, b ≠ 264 → v1 b = v b := fun b hb => by { rw [hv1]; exact gu_n hb }
    have ef1 : ∀ k : Int, k ≠ 0 → v1 264 k = v 264 k := fun k hk => by { rw [hv1, gu_s, up_n hk] }
    have hR1 := hM1.2.1
    have ra1 := hR1.1
    have rb1 := hR1.2.1
    clear hv1
    show mv_Ev _ _ 19 _ _ _ _ _
    refine e_if (t := 24) (pc' := 22) hK rfl (by first | omega | exact bo_i _) (by decide) rfl (fun hb19 => ?_) (fun hb19 => ?_)
    · replace hb19 := cq_eq.1.mp hb19
      try simp only [bo_0, Bool.not_eq_false] at hb19
      refine e_step (pc' := 25) hK rfl rfl rfl ?_
      refine e_getR (ci := 4) (k := 3) (pc' := 28) hK rfl (by simp (disch := omega) only [mH_t64, mH_r1, mH_r3, mH_r4, mH_r5, mH_r6, mH_r8, mH_r9, mH_r10, mH_r11, mH_r12, mH_r14, mH_i0, mH_i2, mH_i7, mH_i13, mH_i15, mH_t71, mH_t, mH_lr, mH_l65, mH_l69, mH_l70, mH_l71, mH_l72, mH_l73, mH_l74, mH_l75, mH_c, ra1, rb1]) rfl rfl (by decide) (by decide) (by (try simp (disch := omega) only [mH_t64, mH_r1, mH_r3, mH_r4, mH_r5, mH_r6, mH_r8, mH_r9, mH_r10, mH_r11, mH_r12, mH_r14, mH_i0, mH_i2, mH_i7, mH_i13, mH_i15, mH_t71, mH_t, mH_lr, mH_l65, mH_l69, mH_l70, mH_l71, mH_l72, mH_l73, mH_l74, mH_l75, mH_c, ra1, rb1]); first | omega | exact bo_i _) rfl ?_
      try simp (disch := omega) only [mH_t64, mH_r1, mH_r3, mH_r4, mH_r5, mH_r6, mH_r8, mH_r9, mH_r10, mH_r11, mH_r12, mH_r14, mH_i0, mH_i2, mH_i7, mH_i13, mH_i15, mH_t71, mH_t, mH_lr, mH_l65, mH_l69, mH_l70, mH_l71, mH_l72, mH_l73, mH_l74, mH_l75, mH_c, ra1, rb1]
      refine e_step (pc' := 29) hK rfl rfl rfl ?_
      refine e_step (pc' := 30) hK rfl rfl rfl ?_
      refine e_getR (ci := 4) (k := 8) (pc' := 33) hK rfl (by simp (disch := omega) only [mH_t64, mH_r1, mH_r3, mH_r4, mH_r5, mH_r6, mH_r8, mH_r9, mH_r10, mH_r11, mH_r12, mH_r14, mH_i0, mH_i2, mH_i7, mH_i13, mH_i15, mH_t71, mH_t, mH_lr, mH_l65, mH_l69, mH_l70, mH_l71, mH_l72, mH_l73, mH_l74, mH_l75, mH_c, ra1, rb1]) rfl rfl (by decide) (by decide) (by (try simp (disch := omega) only [mH_t64, mH_r1, mH_r3, mH_r4, mH_r5, mH_r6, mH_r8, mH_r9, mH_r10, mH_r11, mH_r12, mH_r14, mH_i0, mH_i2, mH_i7, mH_i13, mH_i15, mH_t71, mH_t, mH_lr, mH_l65, mH_l69, mH_l70, mH_l71, mH_l72, mH_l73, mH_l74, mH_l75, mH_c, ra1, rb1]); first | omega | exact bo_i _) rfl ?_
      try simp (disch := omega) only [mH_t64, mH_r1, mH_r3, mH_r4, mH_r5, mH_r6, mH_r8, mH_r9, mH_r10, mH_r11, mH_r12, mH_r14, mH_i0, mH_i2, mH_i7, mH_i13, mH_i15, mH_t71, mH_t, mH_lr, mH_l65, mH_l69, mH_l70, mH_l71, mH_l72, mH_l73, mH_l74, mH_l75, mH_c, ra1, rb1]
      refine e_step (pc' := 36) hK rfl rfl rfl ?_
      refine e_step (pc' := 37) hK rfl rfl rfl ?_
      refine e_step (pc' := 38) hK rfl rfl rfl ?_
      refine e_cQS4 (z := 151) hK rfl rfl rfl (Nat.le_of_ble_eq_true rfl) (Nat.le_of_ble_eq_true rfl) (m_copyLog 266 0 270 (1221 * s) (by omega) (by omega) (by omega) (by omega) (by omega) (by show (0 : Int) + 1221 ≤ 1221 ∧ (1221 : Int) ≤ 20000; omega) (by show 1221 * s + 1221 ≤ (2442 : Int) ∧ (2442 : Int) ≤ 20000; omega)) ?_
      rintro _ _ _ ⟨rfl, rfl, y, rfl, hy, ry⟩
      refine ⟨by decide, ?_⟩
      rw [if_pos rfl]
      try dsimp only
      have y0 : y 266 0 = gn (wA W) := by { rw [hy 266 (by omega)]; exact ra1 }
      show mv_Ev _ _ 41 _ _ _ _ _
      refine e_step (pc' := 42) hK rfl rfl rfl ?_
      refine e_getR (ci := 4) (k := 9) (pc' := 45) hK rfl (by simp (disch := omega) only [mH_t64, mH_r1, mH_r3, mH_r4, mH_r5, mH_r6, mH_r8, mH_r9, mH_r10, mH_r11, mH_r12, mH_r14, mH_i0, mH_i2, mH_i7, mH_i13, mH_i15, mH_t71, mH_t, mH_lr, mH_l65, mH_l69, mH_l70, mH_l71, mH_l72, mH_l73, mH_l74, mH_l75, mH_c, ra1, rb1, y0]) rfl rfl (by decide) (by decide) (by (try simp (disch := omega) only [mH_t64, mH_r1, mH_r3, mH_r4, mH_r5, mH_r6, mH_r8, mH_r9, mH_r10, mH_r11, mH_r12, mH_r14, mH_i0, mH_i2, mH_i7, mH_i13, mH_i15, mH_t71, mH_t, mH_lr, mH_l65, mH_l69, mH_l70, mH_l71, mH_l72, mH_l73, mH_l74, mH_l75, mH_c, ra1, rb1, y0]); first | omega | exact bo_i _) rfl ?_
      try simp (disch := omega) only [mH_t64, mH_r1, mH_r3, mH_r4, mH_r5, mH_r6, mH_r8, mH_r9, mH_r10, mH_r11, mH_r12, mH_r14, mH_i0, mH_i2, mH_i7, mH_i13, mH_i15, mH_t71, mH_t, mH_lr, mH_l65, mH_l69, mH_l70, mH_l71, mH_l72, mH_l73, mH_l74, mH_l75, mH_c, ra1, rb1, y0]
      refine e_step (pc' := 46) hK rfl rfl rfl ?_
      refine e_step (pc' := 47) hK rfl rfl rfl ?_
      refine e_bast (pc' := 48) hK rfl (by simp (disch := omega) only [mH_t64, mH_r1, mH_r3, mH_r4, mH_r5, mH_r6, mH_r8, mH_r9, mH_r10, mH_r11, mH_r12, mH_r14, mH_i0, mH_i2, mH_i7, mH_i13, mH_i15, mH_t71, mH_t, mH_lr, mH_l65, mH_l69, mH_l70, mH_l71, mH_l72, mH_l73, mH_l74, mH_l75, mH_c, ra1, rb1, y0]) (by first | omega | exact bo_i _) (by (try simp (disch := omega) only [mH_t64, mH_r1, mH_r3, mH_r4, mH_r5, mH_r6, mH_r8, mH_r9, mH_r10, mH_r11, mH_r12, mH_r14, mH_i0, mH_i2, mH_i7, mH_i13, mH_i15, mH_t71, mH_t, mH_lr, mH_l65, mH_l69, mH_l70, mH_l71, mH_l72, mH_l73, mH_l74, mH_l75, mH_c, ra1, rb1, y0]); first | omega | exact bo_i _) (by first | omega | exact bo_i _) rfl ?_
      simp (disch := omega) only [mW_0, mW_2, mW_7, mW_13, mW_15, mW_a, gu_s]
      refine e_step (pc' := 49) hK rfl rfl rfl ?_
      refine e_getR (ci := 4) (k := 3) (pc' := 52) hK rfl (by simp (disch := omega) only [mH_t64, mH_r1, mH_r3, mH_r4, mH_r5, mH_r6, mH_r8, mH_r9, mH_r10, mH_r11, mH_r12, mH_r14, mH_i0, mH_i2, mH_i7, mH_i13, mH_i15, mH_t71, mH_t, mH_lr, mH_l65, mH_l69, mH_l70, mH_l71, mH_l72, mH_l73, mH_l74, mH_l75, mH_c, ra1, rb1, y0]) rfl rfl (by decide) (by decide) (by (try simp (disch := omega) only [mH_t64, mH_r1, mH_r3, mH_r4, mH_r5, mH_r6, mH_r8, mH_r9, mH_r10, mH_r11, mH_r12, mH_r14, mH_i0, mH_i2, mH_i7, mH_i13, mH_i15, mH_t71, mH_t, mH_lr, mH_l65, mH_l69, mH_l70, mH_l71, mH_l72, mH_l73, mH_l74, mH_l75, mH_c, ra1, rb1, y0]); first | omega | exact bo_i _) rfl ?_
      try simp (disch := omega) only [mH_t64, mH_r1, mH_r3, mH_r4, mH_r5, mH_r6, mH_r8, mH_r9, mH_r10, mH_r11, mH_r12, mH_r14, mH_i0, mH_i2, mH_i7, mH_i13, mH_i15, mH_t71, mH_t, mH_lr, mH_l65, mH_l69, mH_l70, mH_l71, mH_l72, mH_l73, mH_l74, mH_l75, mH_c, ra1, rb1, y0]
      refine e_step (pc' := 53) hK rfl rfl rfl ?_
      refine e_iald (pc' := 54) hK rfl (by simp (disch := omega) only [mH_t64, mH_r1, mH_r3, mH_r4, mH_r5, mH_r6, mH_r8, mH_r9, mH_r10, mH_r11, mH_r12, mH_r14, mH_i0, mH_i2, mH_i7, mH_i13, mH_i15, mH_t71, mH_t, mH_lr, mH_l65, mH_l69, mH_l70, mH_l71, mH_l72, mH_l73, mH_l74, mH_l75, mH_c, ra1, rb1, y0]) (by first | omega | exact bo_i _) (by (try simp (disch := omega) only [mH_t64, mH_r1, mH_r3, mH_r4, mH_r5, mH_r6, mH_r8, mH_r9, mH_r10, mH_r11, mH_r12, mH_r14, mH_i0, mH_i2, mH_i7, mH_i13, mH_i15, mH_t71, mH_t, mH_lr, mH_l65, mH_l69, mH_l70, mH_l71, mH_l72, mH_l73, mH_l74, mH_l75, mH_c, ra1, rb1, y0]); first | omega | exact bo_i _) rfl ?_
      try simp (disch := omega) only [mH_t64, mH_r1, mH_r3, mH_r4, mH_r5, mH_r6, mH_r8, mH_r9, mH_r10, mH_r11, mH_r12, mH_r14, mH_i0, mH_i2, mH_i7, mH_i13, mH_i15, mH_t71, mH_t, mH_lr, mH_l65, mH_l69, mH_l70, mH_l71, mH_l72, mH_l73, mH_l74, mH_l75, mH_c, ra1, rb1, y0]
      refine e_ret hK rfl rfl rfl ?_
      have e9 : sp_save W s = (0, ((gn (wA W) : Nat) : Int), (wN W, wF W, wA W, wn W, wg W, gu (wk W) s true, gu (wS W) s (wA W))) := by { unfold sp_save; rw [if_pos (by omega)] }
      rw [e9]
      have eb : ∀ b : Int, b ≠ 264 → b ≠ 270 → b ≠ 271 → gu y 271 (mv_up (y 271) s 1) b = v b := fun b n1 n2 n3 => by { rw [gu_n n3, hy b n2, eo1 b n1] }
      have e64 : gu y 271 (mv_up (y 271) s 1) 264 = v1 264 := by { rw [gu_n (by omega), hy 264 (by omega)] }
      refine ⟨by first | rfl | (simp (disch := omega) only [gu_n, y0]), rfl, _, rfl, ⟨hTx.kq (eb 265 (by omega) (by omega) (by omega)) (by rw [e64]; exact ef1 2 (by omega)), by rw [eb 266 (by omega) (by omega) (by omega)]; exact hR, ⟨hI, bn, bT⟩, by { have h9 := hM1.2.2.2.1; unfold HdR at *; rw [e64, eb 269 (by omega) (by omega) (by omega), ← eo1 269 (by omega)]; exact h9 }, hz, fun k hk => ?_⟩, by rw [e64]; exact z1⟩
      show _ = mv_bo (gu (wk W) s true k) ∧ (gu (wk W) s true k = true → sz (gu (wS W) s (wA W) k) ∧ Rw _ (gu (wS W) s (wA W) k))
      rw [gu_s, gu_n (show (270 : Int) ≠ 271 by omega)]
      by_cases e : k = s
      · rw [e, up_s, gu_s, gu_s]
        refine ⟨rfl, fun _ => ⟨⟨hI, bn, bT⟩, Rw_ext hR hI (fun q q0 q1 => ?_)⟩⟩
        rw [ry, if_pos (by omega), eo1 266 (by omega)]
        exact congrArg (v 266) (by omega)
      · rw [up_n e, gu_n e, gu_n e, hy 271 (by omega), eo1 271 (by omega)]
        obtain ⟨g1, g2⟩ := hSv k hk
        refine ⟨g1, fun e8 => ⟨(g2 e8).1, Rw_ext (g2 e8).2 (g2 e8).1.1 (fun q q0 q1 => ?_)⟩⟩
        rw [ry, if_neg (by omega), eo1 270 (by omega)]
    · replace hb19 := cq_eq.2.mp hb19
      try simp only [bo_0, Bool.not_eq_false] at hb19
      exfalso; first | omega | exact absurd trivial (by assumption) | (first | omega | exact bo_i _)
set_option maxRecDepth 10000 in
theorem g_restore {W : wt} (hM : MdA v W) (s : Int) (hs : mv_i s) : mv_Cl sc q_Mod_restore [(2, 264), (0, s)] c (mH h v) (fun r c' h' => r = (0, (sp_restore W s).2.1) ∧ c' = c ∧ ∃ w, h' = mH h w ∧ MdA w (sp_restore W s).2.2 ∧ w 264 0 = (sp_restore W s).1) := by
  have hM0 := hM
  obtain ⟨hTx, hR, ⟨hI, bn, bT⟩, hH, hz, hSv⟩ := hM
  have r0 := hR.1
  have r1 := hR.2.1
  show mv_Ev sc 184 0 [(2, 264), (0, s)] [] c (mH h v) _
  have hK : (mv_m 184).1 = kc_Mod_restore := rfl
  refine e_step (pc' := 1) hK rfl rfl rfl ?_
  refine e_step (pc' := 2) hK rfl rfl rfl ?_
  refine e_i2l (pc' := 3) hK rfl (by first | omega | exact bo_i _) rfl ?_
  refine e_step (pc' := 4) hK rfl rfl rfl ?_
  show mv_Ev _ _ 4 _ ((1, (0 : Int)) :: _) _ _ _
  refine e_step (pc' := 5) hK rfl rfl rfl ?_
  show mv_Ev _ _ 5 _ ((1, (1 : Int)) :: _) _ _ _
  refine e_cRS3 (z := 109) (pc' := 8) hK rfl rfl rfl (Nat.le_of_ble_eq_true rfl) (Nat.le_of_ble_eq_true rfl) (m_in s 0 1 (by omega) (by omega) (by omega)) (by decide) rfl ?_
  try simp (disch := omega) only [mH_t64, mH_r1, mH_r3, mH_r4, mH_r5, mH_r6, mH_r8, mH_r9, mH_r10, mH_r11, mH_r12, mH_r14, mH_i0, mH_i2, mH_i7, mH_i13, mH_i15, mH_t71, mH_t, mH_lr, mH_l65, mH_l69, mH_l70, mH_l71, mH_l72, mH_l73, mH_l74, mH_l75, mH_c]
  refine e_if (t := 15) (pc' := 11) hK rfl (by first | omega | exact bo_i _) (by decide) rfl (fun hb8 => ?_) (fun hb8 => ?_)
  · replace hb8 := cq_ne.1.mp hb8
    try simp only [bo_0, Bool.not_eq_false] at hb8
    simp only [Bool.and_eq_true, decide_eq_true_eq] at hb8
    obtain ⟨gk, gS⟩ := hSv s (by omega)
    refine e_step (pc' := 16) hK rfl rfl rfl ?_
    refine e_getR (ci := 4) (k := 9) (pc' := 19) hK rfl (by simp (disch := omega) only [mH_t64, mH_r1, mH_r3, mH_r4, mH_r5, mH_r6, mH_r8, mH_r9, mH_r10, mH_r11, mH_r12, mH_r14, mH_i0, mH_i2, mH_i7, mH_i13, mH_i15, mH_t71, mH_t, mH_lr, mH_l65, mH_l69, mH_l70, mH_l71, mH_l72, mH_l73, mH_l74, mH_l75, mH_c, gk]) rfl rfl (by decide) (by decide) (by (try simp (disch := omega) only [mH_t64, mH_r1, mH_r3, mH_r4, mH_r5, mH_r6, mH_r8, mH_r9, mH_r10, mH_r11, mH_r12, mH_r14, mH_i0, mH_i2, mH_i7, mH_i13, mH_i15, mH_t71, mH_t, mH_lr, mH_l65, mH_l69, mH_l70, mH_l71, mH_l72, mH_l73, mH_l74, mH_l75, mH_c, gk]); first | omega | exact bo_i _) rfl ?_
    try simp (disch := omega) only [mH_t64, mH_r1, mH_r3, mH_r4, mH_r5, mH_r6, mH_r8, mH_r9, mH_r10, mH_r11, mH_r12, mH_r14, mH_i0, mH_i2, mH_i7, mH_i13, mH_i15, mH_t71, mH_t, mH_lr, mH_l65, mH_l69, mH_l70, mH_l71, mH_l72, mH_l73, mH_l74, mH_l75, mH_c, gk]
    refine e_step (pc' := 20) hK rfl rfl rfl ?_
    refine e_bald (pc' := 21) hK rfl (by simp (disch := omega) only [mH_t64, mH_r1, mH_r3, mH_r4, mH_r5, mH_r6, mH_r8, mH_r9, mH_r10, mH_r11, mH_r12, mH_r14, mH_i0, mH_i2, mH_i7, mH_i13, mH_i15, mH_t71, mH_t, mH_lr, mH_l65, mH_l69, mH_l70, mH_l71, mH_l72, mH_l73, mH_l74, mH_l75, mH_c, gk]) (by first | omega | exact bo_i _) (by (try simp (disch := omega) only [mH_t64, mH_r1, mH_r3, mH_r4, mH_r5, mH_r6, mH_r8, mH_r9, mH_r10, mH_r11, mH_r12, mH_r14, mH_i0, mH_i2, mH_i7, mH_i13, mH_i15, mH_t71, mH_t, mH_lr, mH_l65, mH_l69, mH_l70, mH_l71, mH_l72, mH_l73, mH_l74, mH_l75, mH_c, gk]); first | omega | exact bo_i _) rfl ?_
    try simp (disch := omega) only [mH_t64, mH_r1, mH_r3, mH_r4, mH_r5, mH_r6, mH_r8, mH_r9, mH_r10, mH_r11, mH_r12, mH_r14, mH_i0, mH_i2, mH_i7, mH_i13, mH_i15, mH_t71, mH_t, mH_lr, mH_l65, mH_l69, mH_l70, mH_l71, mH_l72, mH_l73, mH_l74, mH_l75, mH_c, gk]
    refine e_if (t := 28) (pc' := 24) hK rfl (by first | omega | exact bo_i _) (by decide) rfl (fun hb21 => ?_) (fun hb21 => ?_)
    · replace hb21 := cq_ne.1.mp hb21
      try simp only [bo_0, Bool.not_eq_false] at hb21
      refine e_step (pc' := 29) hK rfl rfl rfl ?_
      refine e_cQV2 (z := 110) hK rfl rfl (by first | (simp (disch := omega) only [mH_t64, mH_r1, mH_r3, mH_r4, mH_r5, mH_r6, mH_r8, mH_r9, mH_r10, mH_r11, mH_r12, mH_r14, mH_i0, mH_i2, mH_i7, mH_i13, mH_i15, mH_t71, mH_t, mH_lr, mH_l65, mH_l69, mH_l70, mH_l71, mH_l72, mH_l73, mH_l74, mH_l75, mH_c, gk]; rfl) | (show _ = 2; assumption) | (show _ = 1; assumption) | (show _ = 0; assumption) | (show _ = 3; assumption) | (show _ = 4; assumption)) rfl (Nat.le_of_ble_eq_true rfl) (Nat.le_of_ble_eq_true rfl) (m_ref0) ?_
      rintro _ _ _ ⟨rfl, rfl, rfl⟩
      refine ⟨by show (0 : Nat) ≠ 4; decide, ?_⟩
      rw [if_neg (by show ¬ (0 : Nat) = 3; decide)]
      try dsimp only
      have hM1 := hM0.rf 0
      obtain ⟨v1, hv1⟩ : ∃ v1, v1 = gu v 264 (mv_up (v 264) 0 0) := ⟨_, rfl⟩
      rw [← hv1] at hM1 ⊢
      have z1 : v1 264 0 = 0 := by { rw [hv1, gu_s, up_s] }
      have eo1 : ∀ b : Int, b ≠ 264 → v1 b = v b := fun b hb => by { rw [hv1]; exact gu_n hb }
      have ef1 : ∀ k : Int, k ≠ 0 → v1 264 k = v 264 k := fun k hk => by { rw [hv1, gu_s, up_n hk] }
      have hR1 := hM1.2.1
      have ra1 := hR1.1
      have rb1 := hR1.2.1
      clear hv1
      show mv_Ev _ _ 32 _ _ _ _ _
      refine e_if (t := 37) (pc' := 35) hK rfl (by first | omega | exact bo_i _) (by decide) rfl (fun hb32 => ?_) (fun hb32 => ?_)
      · replace hb32 := cq_eq.1.mp hb32
        try simp only [bo_0, Bool.not_eq_false] at hb32
        refine e_step (pc' := 38) hK rfl rfl rfl ?_
        refine e_getR (ci := 4) (k := 8) (pc' := 41) hK rfl (by simp (disch := omega) only [mH_t64, mH_r1, mH_r3, mH_r4, mH_r5, mH_r6, mH_r8, mH_r9, mH_r10, mH_r11, mH_r12, mH_r14, mH_i0, mH_i2, mH_i7, mH_i13, mH_i15, mH_t71, mH_t, mH_lr, mH_l65, mH_l69, mH_l70, mH_l71, mH_l72, mH_l73, mH_l74, mH_l75, mH_c, gk, ra1, rb1]) rfl rfl (by decide) (by decide) (by (try simp (disch := omega) only [mH_t64, mH_r1, mH_r3, mH_r4, mH_r5, mH_r6, mH_r8, mH_r9, mH_r10, mH_r11, mH_r12, mH_r14, mH_i0, mH_i2, mH_i7, mH_i13, mH_i15, mH_t71, mH_t, mH_lr, mH_l65, mH_l69, mH_l70, mH_l71, mH_l72, mH_l73, mH_l74, mH_l75, mH_c, gk, ra1, rb1]); first | omega | exact bo_i _) rfl ?_
        try simp (disch := omega) only [mH_t64, mH_r1, mH_r3, mH_r4, mH_r5, mH_r6, mH_r8, mH_r9, mH_r10, mH_r11, mH_r12, mH_r14, mH_i0, mH_i2, mH_i7, mH_i13, mH_i15, mH_t71, mH_t, mH_lr, mH_l65, mH_l69, mH_l70, mH_l71, mH_l72, mH_l73, mH_l74, mH_l75, mH_c, gk, ra1, rb1]
        refine e_step (pc' := 44) hK rfl rfl rfl ?_
        refine e_step (pc' := 45) hK rfl rfl rfl ?_
        refine e_step (pc' := 46) hK rfl rfl rfl ?_
        refine e_step (pc' := 47) hK rfl rfl rfl ?_
        refine e_getR (ci := 4) (k := 3) (pc' := 50) hK rfl (by simp (disch := omega) only [mH_t64, mH_r1, mH_r3, mH_r4, mH_r5, mH_r6, mH_r8, mH_r9, mH_r10, mH_r11, mH_r12, mH_r14, mH_i0, mH_i2, mH_i7, mH_i13, mH_i15, mH_t71, mH_t, mH_lr, mH_l65, mH_l69, mH_l70, mH_l71, mH_l72, mH_l73, mH_l74, mH_l75, mH_c, gk, ra1, rb1]) rfl rfl (by decide) (by decide) (by (try simp (disch := omega) only [mH_t64, mH_r1, mH_r3, mH_r4, mH_r5, mH_r6, mH_r8, mH_r9, mH_r10, mH_r11, mH_r12, mH_r14, mH_i0, mH_i2, mH_i7, mH_i13, mH_i15, mH_t71, mH_t, mH_lr, mH_l65, mH_l69, mH_l70, mH_l71, mH_l72, mH_l73, mH_l74, mH_l75, mH_c, gk, ra1, rb1]); first | omega | exact bo_i _) rfl ?_
        try simp (disch := omega) only [mH_t64, mH_r1, mH_r3, mH_r4, mH_r5, mH_r6, mH_r8, mH_r9, mH_r10, mH_r11, mH_r12, mH_r14, mH_i0, mH_i2, mH_i7, mH_i13, mH_i15, mH_t71, mH_t, mH_lr, mH_l65, mH_l69, mH_l70, mH_l71, mH_l72, mH_l73, mH_l74, mH_l75, mH_c, gk, ra1, rb1]
        refine e_step (pc' := 51) hK rfl rfl rfl ?_
        refine e_cQS4 (z := 151) hK rfl rfl rfl (Nat.le_of_ble_eq_true rfl) (Nat.le_of_ble_eq_true rfl) (m_copyLog 270 (1221 * s) 266 0 (by omega) (by omega) (by omega) (by omega) (by omega) (by show 1221 * s + 1221 ≤ (2442 : Int) ∧ (2442 : Int) ≤ 20000; omega) (by show (0 : Int) + 1221 ≤ 1221 ∧ (1221 : Int) ≤ 20000; omega)) ?_
        rintro _ _ _ ⟨rfl, rfl, y, rfl, hy, ry⟩
        refine ⟨by decide, ?_⟩
        rw [if_pos rfl]
        try dsimp only
        obtain ⟨gs1, gs2⟩ := gS hb21
        have hRy : Rw (y 266) (wS W s) := Rw_ext gs2 gs1.1 (fun q q0 q1 => by { rw [ry q, if_pos (by omega), eo1 270 (by omega)]; exact congrArg (v 270) (by omega) })
        have y0 := hRy.1
        show mv_Ev _ _ 54 _ _ _ _ _
        refine e_step (pc' := 55) hK rfl rfl rfl ?_
        refine e_step (pc' := 56) hK rfl rfl rfl ?_
        refine e_put (ci := 4) (k := 7) (pc' := 59) hK rfl (by simp (disch := omega) only [mH_t64, mH_r1, mH_r3, mH_r4, mH_r5, mH_r6, mH_r8, mH_r9, mH_r10, mH_r11, mH_r12, mH_r14, mH_i0, mH_i2, mH_i7, mH_i13, mH_i15, mH_t71, mH_t, mH_lr, mH_l65, mH_l69, mH_l70, mH_l71, mH_l72, mH_l73, mH_l74, mH_l75, mH_c, gk, ra1, rb1, y0]) rfl rfl (by decide) rfl rfl ?_
        simp (disch := omega) only [mW_0, mW_2, mW_7, mW_13, mW_15, mW_a, gu_s]
        refine e_step (pc' := 60) hK rfl rfl rfl ?_
        refine e_getR (ci := 4) (k := 3) (pc' := 63) hK rfl (by simp (disch := omega) only [mH_t64, mH_r1, mH_r3, mH_r4, mH_r5, mH_r6, mH_r8, mH_r9, mH_r10, mH_r11, mH_r12, mH_r14, mH_i0, mH_i2, mH_i7, mH_i13, mH_i15, mH_t71, mH_t, mH_lr, mH_l65, mH_l69, mH_l70, mH_l71, mH_l72, mH_l73, mH_l74, mH_l75, mH_c, gk, ra1, rb1, y0]) rfl rfl (by decide) (by decide) (by (try simp (disch := omega) only [mH_t64, mH_r1, mH_r3, mH_r4, mH_r5, mH_r6, mH_r8, mH_r9, mH_r10, mH_r11, mH_r12, mH_r14, mH_i0, mH_i2, mH_i7, mH_i13, mH_i15, mH_t71, mH_t, mH_lr, mH_l65, mH_l69, mH_l70, mH_l71, mH_l72, mH_l73, mH_l74, mH_l75, mH_c, gk, ra1, rb1, y0]); first | omega | exact bo_i _) rfl ?_
        try simp (disch := omega) only [mH_t64, mH_r1, mH_r3, mH_r4, mH_r5, mH_r6, mH_r8, mH_r9, mH_r10, mH_r11, mH_r12, mH_r14, mH_i0, mH_i2, mH_i7, mH_i13, mH_i15, mH_t71, mH_t, mH_lr, mH_l65, mH_l69, mH_l70, mH_l71, mH_l72, mH_l73, mH_l74, mH_l75, mH_c, gk, ra1, rb1, y0]
        refine e_step (pc' := 64) hK rfl rfl rfl ?_
        refine e_iald (pc' := 65) hK rfl (by simp (disch := omega) only [mH_t64, mH_r1, mH_r3, mH_r4, mH_r5, mH_r6, mH_r8, mH_r9, mH_r10, mH_r11, mH_r12, mH_r14, mH_i0, mH_i2, mH_i7, mH_i13, mH_i15, mH_t71, mH_t, mH_lr, mH_l65, mH_l69, mH_l70, mH_l71, mH_l72, mH_l73, mH_l74, mH_l75, mH_c, gk, ra1, rb1, y0]) (by first | omega | exact bo_i _) (by (try simp (disch := omega) only [mH_t64, mH_r1, mH_r3, mH_r4, mH_r5, mH_r6, mH_r8, mH_r9, mH_r10, mH_r11, mH_r12, mH_r14, mH_i0, mH_i2, mH_i7, mH_i13, mH_i15, mH_t71, mH_t, mH_lr, mH_l65, mH_l69, mH_l70, mH_l71, mH_l72, mH_l73, mH_l74, mH_l75, mH_c, gk, ra1, rb1, y0]); first | omega | exact bo_i _) rfl ?_
        try simp (disch := omega) only [mH_t64, mH_r1, mH_r3, mH_r4, mH_r5, mH_r6, mH_r8, mH_r9, mH_r10, mH_r11, mH_r12, mH_r14, mH_i0, mH_i2, mH_i7, mH_i13, mH_i15, mH_t71, mH_t, mH_lr, mH_l65, mH_l69, mH_l70, mH_l71, mH_l72, mH_l73, mH_l74, mH_l75, mH_c, gk, ra1, rb1, y0]
        refine e_ret hK rfl rfl rfl ?_
        have e9 : sp_restore W s = (0, ((gn (wS W s) : Nat) : Int), (wN W, wF W, wS W s, 0, wg W, wk W, wS W)) := by { unfold sp_restore; rw [if_pos (by omega), if_pos hb21] }
        rw [e9]
        have eb : ∀ b : Int, b ≠ 264 → b ≠ 266 → gu y 264 (mv_up (y 264) 7 0) b = v b := fun b n1 n2 => by { rw [gu_n n1, hy b n2, eo1 b n1] }
        have e64 : ∀ k : Int, k ≠ 7 → gu y 264 (mv_up (y 264) 7 0) 264 k = v1 264 k := fun k hk => by { rw [gu_s, up_n hk, hy 264 (by omega)] }
        refine ⟨by first | rfl | (simp (disch := omega) only [gu_n, y0]), rfl, _, rfl, ⟨hTx.kq (eb 265 (by omega) (by omega)) ((e64 2 (by omega)).trans (ef1 2 (by omega))), by rw [gu_n (by omega)]; exact hRy, gs1, ⟨by show 0 ≤ 14; decide, by rw [gu_s, up_s]; rfl, fun j j0 j1 => by { have j1 : j < 0 := j1; omega }⟩, fun j j0 j1 => by { have j1 : j < 0 := j1; omega }, fun k hk => ?_⟩, (e64 0 (by omega)).trans z1⟩
        rw [eb 271 (by omega) (by omega), eb 270 (by omega) (by omega)]; exact hSv k hk
      · replace hb32 := cq_eq.2.mp hb32
        try simp only [bo_0, Bool.not_eq_false] at hb32
        exfalso; first | omega | exact absurd trivial (by assumption) | (first | omega | exact bo_i _)
    · replace hb21 := cq_ne.2.mp hb21
      try simp only [bo_0, Bool.not_eq_false] at hb21
      refine e_step (pc' := 25) hK rfl rfl rfl ?_
      refine e_goto (t := 29) hK rfl (by decide) ?_
      refine e_cQV2 (z := 110) hK rfl rfl (by first | (simp (disch := omega) only [mH_t64, mH_r1, mH_r3, mH_r4, mH_r5, mH_r6, mH_r8, mH_r9, mH_r10, mH_r11, mH_r12, mH_r14, mH_i0, mH_i2, mH_i7, mH_i13, mH_i15, mH_t71, mH_t, mH_lr, mH_l65, mH_l69, mH_l70, mH_l71, mH_l72, mH_l73, mH_l74, mH_l75, mH_c, gk]; rfl) | (show _ = 2; assumption) | (show _ = 1; assumption) | (show _ = 0; assumption) | (show _ = 3; assumption) | (show _ = 4; assumption)) rfl (Nat.le_of_ble_eq_true rfl) (Nat.le_of_ble_eq_true rfl) (m_refP 2 (by omega)) ?_
      rintro _ _ _ ⟨rfl, rfl, rfl⟩
      refine ⟨by show (0 : Nat) ≠ 4; decide, ?_⟩
      rw [if_neg (by show ¬ (0 : Nat) = 3; decide)]
      try dsimp only
      have hM1 := hM0.rf 2
      obtain ⟨v1, hv1⟩ : ∃ v1, v1 = gu v 264 (mv_up (v 264) 0 2) := ⟨_, rfl⟩
      rw [← hv1] at hM1 ⊢
      have z1 : v1 264 0 = 2 := by { rw [hv1, gu_s, up_s] }
      have eo1 : ∀ b : Int, b ≠ 264 → v1 b = v b := fun b hb => by { rw [hv1]; exact gu_n hb }
      have ef1 : ∀ k : Int, k ≠ 0 → v1 264 k = v 264 k := fun k hk => by { rw [hv1, gu_s, up_n hk] }
      have hR1 := hM1.2.1
      have ra1 := hR1.1
      have rb1 := hR1.2.1
      clear hv1
      show mv_Ev _ _ 32 _ _ _ _ _
      refine e_if (t := 37) (pc' := 35) hK rfl (by first | omega | exact bo_i _) (by decide) rfl (fun hb32 => ?_) (fun hb32 => ?_)
      · replace hb32 := cq_eq.1.mp hb32
        try simp only [bo_0, Bool.not_eq_false] at hb32
        exfalso; first | omega | exact absurd trivial (by assumption) | (first | omega | exact bo_i _)
      · replace hb32 := cq_eq.2.mp hb32
        try simp only [bo_0, Bool.not_eq_false] at hb32
        refine e_step (pc' := 36) hK rfl rfl rfl ?_
        refine e_ret hK rfl rfl rfl ?_
        have e9 : sp_restore W s = (2, 0, W) := by { unfold sp_restore; rw [if_pos (by omega), if_neg (by rw [hb21]; decide)] }
        rw [e9]
        exact ⟨rfl, rfl, v1, rfl, hM1, z1⟩
  · replace hb8 := cq_ne.2.mp hb8
    try simp only [bo_0, Bool.not_eq_false] at hb8
    simp only [Bool.and_eq_false_iff, decide_eq_false_iff_not] at hb8
    refine e_step (pc' := 12) hK rfl rfl rfl ?_
    refine e_goto (t := 29) hK rfl (by decide) ?_
    refine e_cQV2 (z := 110) hK rfl rfl (by first | (simp (disch := omega) only [mH_t64, mH_r1, mH_r3, mH_r4, mH_r5, mH_r6, mH_r8, mH_r9, mH_r10, mH_r11, mH_r12, mH_r14, mH_i0, mH_i2, mH_i7, mH_i13, mH_i15, mH_t71, mH_t, mH_lr, mH_l65, mH_l69, mH_l70, mH_l71, mH_l72, mH_l73, mH_l74, mH_l75, mH_c]; rfl) | (show _ = 2; assumption) | (show _ = 1; assumption) | (show _ = 0; assumption) | (show _ = 3; assumption) | (show _ = 4; assumption)) rfl (Nat.le_of_ble_eq_true rfl) (Nat.le_of_ble_eq_true rfl) (m_refP 1 (by omega)) ?_
    rintro _ _ _ ⟨rfl, rfl, rfl⟩
    refine ⟨by show (0 : Nat) ≠ 4; decide, ?_⟩
    rw [if_neg (by show ¬ (0 : Nat) = 3; decide)]
    try dsimp only
    have hM1 := hM0.rf 1
    obtain ⟨v1, hv1⟩ : ∃ v1, v1 = gu v 264 (mv_up (v 264) 0 1) := ⟨_, rfl⟩
    rw [← hv1] at hM1 ⊢
    have z1 : v1 264 0 = 1 := by { rw [hv1, gu_s, up_s] }
    have eo1 : ∀ b : Int, b ≠ 264 → v1 b = v b := fun b hb => by { rw [hv1]; exact gu_n hb }
    have ef1 : ∀ k : Int, k ≠ 0 → v1 264 k = v 264 k := fun k hk => by { rw [hv1, gu_s, up_n hk] }
    have hR1 := hM1.2.1
    have ra1 := hR1.1
    have rb1 := hR1.2.1
    clear hv1
    show mv_Ev _ _ 32 _ _ _ _ _
    refine e_if (t := 37) (pc' := 35) hK rfl (by first | omega | exact bo_i _) (by decide) rfl (fun hb32 => ?_) (fun hb32 => ?_)
    · replace hb32 := cq_eq.1.mp hb32
      try simp only [bo_0, Bool.not_eq_false] at hb32
      exfalso; first | omega | exact absurd trivial (by assumption) | (first | omega | exact bo_i _)
    · replace hb32 := cq_eq.2.mp hb32
      try simp only [bo_0, Bool.not_eq_false] at hb32
      refine e_step (pc' := 36) hK rfl rfl rfl ?_
      refine e_ret hK rfl rfl rfl ?_
      have e9 : sp_restore W s = (1, 0, W) := by { unfold sp_restore; rw [if_neg (by omega)] }
      rw [e9]
      exact ⟨rfl, rfl, v1, rfl, hM1, z1⟩
set_option maxRecDepth 10000 in
theorem g_next {W : wt} (hM : MdA v W) (i : Int) (hi : mv_i i) (x : Int) (hx : mv_i x) : mv_Cl sc q_Mod_next [(2, 264), (0, i), (0, x)] c (mH h v) (fun r c' h' => r = (0, (sp_next W i x).2.1) ∧ c' = c ∧ ∃ w, h' = mH h w ∧ MdA w (sp_next W i x).2.2 ∧ w 264 0 = (sp_next W i x).1) := by
  have hM0 := hM
  obtain ⟨hTx, hR, ⟨hI, bn, bT⟩, hH, hz, hSv⟩ := hM
  have r0 := hR.1
  have r1 := hR.2.1
  show mv_Ev sc 172 0 [(2, 264), (0, i), (0, x)] [] c (mH h v) _
  have hK : (mv_m 172).1 = kc_Mod_next := rfl
  refine e_step (pc' := 1) hK rfl rfl rfl ?_
  refine e_step (pc' := 2) hK rfl rfl rfl ?_
  refine e_getR (ci := 4) (k := 3) (pc' := 5) hK rfl (by simp (disch := omega) only [mH_t64, mH_r1, mH_r3, mH_r4, mH_r5, mH_r6, mH_r8, mH_r9, mH_r10, mH_r11, mH_r12, mH_r14, mH_i0, mH_i2, mH_i7, mH_i13, mH_i15, mH_t71, mH_t, mH_lr, mH_l65, mH_l69, mH_l70, mH_l71, mH_l72, mH_l73, mH_l74, mH_l75, mH_c, r1]) rfl rfl (by decide) (by decide) (by (try simp (disch := omega) only [mH_t64, mH_r1, mH_r3, mH_r4, mH_r5, mH_r6, mH_r8, mH_r9, mH_r10, mH_r11, mH_r12, mH_r14, mH_i0, mH_i2, mH_i7, mH_i13, mH_i15, mH_t71, mH_t, mH_lr, mH_l65, mH_l69, mH_l70, mH_l71, mH_l72, mH_l73, mH_l74, mH_l75, mH_c, r1]); first | omega | exact bo_i _) rfl ?_
  try simp (disch := omega) only [mH_t64, mH_r1, mH_r3, mH_r4, mH_r5, mH_r6, mH_r8, mH_r9, mH_r10, mH_r11, mH_r12, mH_r14, mH_i0, mH_i2, mH_i7, mH_i13, mH_i15, mH_t71, mH_t, mH_lr, mH_l65, mH_l69, mH_l70, mH_l71, mH_l72, mH_l73, mH_l74, mH_l75, mH_c, r1]
  refine e_step (pc' := 6) hK rfl rfl rfl ?_
  refine e_cRS2 (z := 139) (pc' := 9) hK rfl rfl rfl (Nat.le_of_ble_eq_true rfl) (Nat.le_of_ble_eq_true rfl) (m_isTemplate 266 (by omega) i hi (by rw [r1]; omega)) (by decide) rfl ?_
  try simp (disch := omega) only [mH_t64, mH_r1, mH_r3, mH_r4, mH_r5, mH_r6, mH_r8, mH_r9, mH_r10, mH_r11, mH_r12, mH_r14, mH_i0, mH_i2, mH_i7, mH_i13, mH_i15, mH_t71, mH_t, mH_lr, mH_l65, mH_l69, mH_l70, mH_l71, mH_l72, mH_l73, mH_l74, mH_l75, mH_c, r1]
  refine e_if (t := 16) (pc' := 12) hK rfl (by first | omega | exact bo_i _) (by decide) rfl (fun hb9 => ?_) (fun hb9 => ?_)
  · replace hb9 := cq_ne.1.mp hb9
    try simp only [bo_0, Bool.not_eq_false] at hb9
    simp only [Bool.and_eq_true, decide_eq_true_eq] at hb9
    refine e_step (pc' := 17) hK rfl rfl rfl ?_
    refine e_if (t := 24) (pc' := 20) hK rfl (by first | omega | exact bo_i _) (by decide) rfl (fun hb17 => ?_) (fun hb17 => ?_)
    · replace hb17 := cq_ge.1.mp hb17
      try simp only [bo_0, Bool.not_eq_false] at hb17
      refine e_step (pc' := 25) hK rfl rfl rfl ?_
      refine e_cQV2 (z := 110) hK rfl rfl (by first | (simp (disch := omega) only [mH_t64, mH_r1, mH_r3, mH_r4, mH_r5, mH_r6, mH_r8, mH_r9, mH_r10, mH_r11, mH_r12, mH_r14, mH_i0, mH_i2, mH_i7, mH_i13, mH_i15, mH_t71, mH_t, mH_lr, mH_l65, mH_l69, mH_l70, mH_l71, mH_l72, mH_l73, mH_l74, mH_l75, mH_c, r1]; rfl) | (show _ = 2; assumption) | (show _ = 1; assumption) | (show _ = 0; assumption) | (show _ = 3; assumption) | (show _ = 4; assumption)) rfl (Nat.le_of_ble_eq_true rfl) (Nat.le_of_ble_eq_true rfl) (m_ref0) ?_
      rintro _ _ _ ⟨rfl, rfl, rfl⟩
      refine ⟨by show (0 : Nat) ≠ 4; decide, ?_⟩
      rw [if_neg (by show ¬ (0 : Nat) = 3; decide)]
      try dsimp only
      have hM1 := hM0.rf 0
      obtain ⟨v1, hv1⟩ : ∃ v1, v1 = gu v 264 (mv_up (v 264) 0 0) := ⟨_, rfl⟩
      rw [← hv1] at hM1 ⊢
      have z1 : v1 264 0 = 0 := by { rw [hv1, gu_s, up_s] }
      have eo1 : ∀ b : Int, b ≠ 264 → v1 b = v b := fun b hb => by { rw [hv1]; exact gu_n hb }
      have ef1 : ∀ k : Int, k ≠ 0 → v1 264 k = v 264 k := fun k hk => by { rw [hv1, gu_s, up_n hk] }
      have hR1 := hM1.2.1
      have ra1 := hR1.1
      have rb1 := hR1.2.1
      clear hv1
      show mv_Ev _ _ 28 _ _ _ _ _
      refine e_if (t := 33) (pc' := 31) hK rfl (by first | omega | exact bo_i _) (by decide) rfl (fun hb28 => ?_) (fun hb28 => ?_)
      · replace hb28 := cq_eq.1.mp hb28
        try simp only [bo_0, Bool.not_eq_false] at hb28
        have i0 : 0 ≤ i ∧ i < gT (wA W) := by omega
        refine e_step (pc' := 34) hK rfl rfl rfl ?_
        refine e_step (pc' := 35) hK rfl rfl rfl ?_
        refine e_cQV2 (z := 173) hK rfl rfl (by first | (simp (disch := omega) only [mH_t64, mH_r1, mH_r3, mH_r4, mH_r5, mH_r6, mH_r8, mH_r9, mH_r10, mH_r11, mH_r12, mH_r14, mH_i0, mH_i2, mH_i7, mH_i13, mH_i15, mH_t71, mH_t, mH_lr, mH_l65, mH_l69, mH_l70, mH_l71, mH_l72, mH_l73, mH_l74, mH_l75, mH_c, r1, ra1, rb1]; rfl) | (show _ = 2; assumption) | (show _ = 1; assumption) | (show _ = 0; assumption) | (show _ = 3; assumption) | (show _ = 4; assumption)) rfl (Nat.le_of_ble_eq_true rfl) (Nat.le_of_ble_eq_true rfl) (m_ahead hR1 hI i i0.1 i0.2) ?_
        rintro _ _ _ ⟨rfl, rfl, w, rfl, w1, w2, w3, w4, w5⟩
        refine ⟨by decide, ?_⟩
        rw [if_pos rfl]
        try dsimp only
        have hla := gla_b hI i0.1 i0.2
        have egl := gl_L (A := wA W) hla.1 hla.2.1
        have hMw : MdA w W := hM1.kq (fun b hb => w1 b (by omega) (by omega) (by omega) (by omega) (by omega)) (w2 2 (by omega)) (w2 7 (by omega))
        have zw : w 264 0 = 0 := (w2 0 (by omega)).trans z1
        have hz0 := fun (q : Nat) => ezs_0 (A := wA W) (l := gla (wA W) i) (by rw [egl]; exact gLok hI hla.1 hla.2.1) (q : Int)
        have hnp : 0 ≤ npos (wA W) (gla (wA W) i) (xn (gL (wA W) (gla (wA W) i))).toNat := lsum_mo hz0 (Nat.zero_le _)
        have eex : exc (wA W) i x = exl (wA W) (gla (wA W) i) (xn (gL (wA W) (gla (wA W) i))).toNat 0 x := by { unfold exc; rw [egl] }
        show mv_Ev _ _ 38 _ _ _ _ _
        refine e_step (pc' := 39) hK rfl rfl rfl ?_
        refine e_step (pc' := 40) hK rfl rfl rfl ?_
        refine e_getI (ci := 4) (k := 15) (pc' := 43) hK rfl (by simp (disch := omega) only [mH_t64, mH_r1, mH_r3, mH_r4, mH_r5, mH_r6, mH_r8, mH_r9, mH_r10, mH_r11, mH_r12, mH_r14, mH_i0, mH_i2, mH_i7, mH_i13, mH_i15, mH_t71, mH_t, mH_lr, mH_l65, mH_l69, mH_l70, mH_l71, mH_l72, mH_l73, mH_l74, mH_l75, mH_c, r1, ra1, rb1, w3]) rfl rfl (by decide) (by decide) rfl ?_
        try simp (disch := omega) only [mH_t64, mH_r1, mH_r3, mH_r4, mH_r5, mH_r6, mH_r8, mH_r9, mH_r10, mH_r11, mH_r12, mH_r14, mH_i0, mH_i2, mH_i7, mH_i13, mH_i15, mH_t71, mH_t, mH_lr, mH_l65, mH_l69, mH_l70, mH_l71, mH_l72, mH_l73, mH_l74, mH_l75, mH_c, r1, ra1, rb1, w3]
        refine e_icmp (t := 55) (pc' := 46) hK rfl (by first | omega | exact bo_i _) (by first | omega | exact bo_i _) (by decide) rfl (fun hb43 => ?_) (fun hb43 => ?_)
        · replace hb43 := cq_ge.1.mp hb43
          try simp only [bo_0, Bool.not_eq_false] at hb43
          refine e_step (pc' := 58) hK rfl rfl rfl ?_
          refine e_ret hK rfl rfl rfl ?_
          have e9 : sp_next W i x = (0, -9999, W) := by { unfold sp_next; rw [eex, exl_out hz0 (by omega)]; (repeat (first | rw [if_pos (by omega)] | rw [if_neg (by omega)])) }
          rw [e9]
          exact ⟨rfl, rfl, w, rfl, hMw, zw⟩
        · replace hb43 := cq_ge.2.mp hb43
          try simp only [bo_0, Bool.not_eq_false] at hb43
          refine e_step (pc' := 47) hK rfl rfl rfl ?_
          refine e_getR (ci := 4) (k := 14) (pc' := 50) hK rfl (by simp (disch := omega) only [mH_t64, mH_r1, mH_r3, mH_r4, mH_r5, mH_r6, mH_r8, mH_r9, mH_r10, mH_r11, mH_r12, mH_r14, mH_i0, mH_i2, mH_i7, mH_i13, mH_i15, mH_t71, mH_t, mH_lr, mH_l65, mH_l69, mH_l70, mH_l71, mH_l72, mH_l73, mH_l74, mH_l75, mH_c, r1, ra1, rb1, w3]) rfl rfl (by decide) (by decide) (by (try simp (disch := omega) only [mH_t64, mH_r1, mH_r3, mH_r4, mH_r5, mH_r6, mH_r8, mH_r9, mH_r10, mH_r11, mH_r12, mH_r14, mH_i0, mH_i2, mH_i7, mH_i13, mH_i15, mH_t71, mH_t, mH_lr, mH_l65, mH_l69, mH_l70, mH_l71, mH_l72, mH_l73, mH_l74, mH_l75, mH_c, r1, ra1, rb1, w3]); first | omega | exact bo_i _) rfl ?_
          try simp (disch := omega) only [mH_t64, mH_r1, mH_r3, mH_r4, mH_r5, mH_r6, mH_r8, mH_r9, mH_r10, mH_r11, mH_r12, mH_r14, mH_i0, mH_i2, mH_i7, mH_i13, mH_i15, mH_t71, mH_t, mH_lr, mH_l65, mH_l69, mH_l70, mH_l71, mH_l72, mH_l73, mH_l74, mH_l75, mH_c, r1, ra1, rb1, w3]
          refine e_step (pc' := 51) hK rfl rfl rfl ?_
          refine e_iald (pc' := 52) hK rfl (by simp (disch := omega) only [mH_t64, mH_r1, mH_r3, mH_r4, mH_r5, mH_r6, mH_r8, mH_r9, mH_r10, mH_r11, mH_r12, mH_r14, mH_i0, mH_i2, mH_i7, mH_i13, mH_i15, mH_t71, mH_t, mH_lr, mH_l65, mH_l69, mH_l70, mH_l71, mH_l72, mH_l73, mH_l74, mH_l75, mH_c, r1, ra1, rb1, w3]) (by first | omega | exact bo_i _) (by (try simp (disch := omega) only [mH_t64, mH_r1, mH_r3, mH_r4, mH_r5, mH_r6, mH_r8, mH_r9, mH_r10, mH_r11, mH_r12, mH_r14, mH_i0, mH_i2, mH_i7, mH_i13, mH_i15, mH_t71, mH_t, mH_lr, mH_l65, mH_l69, mH_l70, mH_l71, mH_l72, mH_l73, mH_l74, mH_l75, mH_c, r1, ra1, rb1, w3]); first | omega | exact bo_i _) rfl ?_
          try simp (disch := omega) only [mH_t64, mH_r1, mH_r3, mH_r4, mH_r5, mH_r6, mH_r8, mH_r9, mH_r10, mH_r11, mH_r12, mH_r14, mH_i0, mH_i2, mH_i7, mH_i13, mH_i15, mH_t71, mH_t, mH_lr, mH_l65, mH_l69, mH_l70, mH_l71, mH_l72, mH_l73, mH_l74, mH_l75, mH_c, r1, ra1, rb1, w3]
          refine e_goto (t := 58) hK rfl (by decide) ?_
          refine e_ret hK rfl rfl rfl ?_
          rw [w5 x (by omega) (by omega), ← eex]
          have e9 : sp_next W i x = (0, exc (wA W) i x, W) := by { unfold sp_next; (repeat (first | rw [if_pos (by omega)] | rw [if_neg (by omega)])) }
          rw [e9]
          exact ⟨rfl, rfl, w, rfl, hMw, zw⟩
      · replace hb28 := cq_eq.2.mp hb28
        try simp only [bo_0, Bool.not_eq_false] at hb28
        exfalso; first | omega | exact absurd trivial (by assumption) | (first | omega | exact bo_i _)
    · replace hb17 := cq_ge.2.mp hb17
      try simp only [bo_0, Bool.not_eq_false] at hb17
      refine e_step (pc' := 21) hK rfl rfl rfl ?_
      refine e_goto (t := 25) hK rfl (by decide) ?_
      refine e_cQV2 (z := 110) hK rfl rfl (by first | (simp (disch := omega) only [mH_t64, mH_r1, mH_r3, mH_r4, mH_r5, mH_r6, mH_r8, mH_r9, mH_r10, mH_r11, mH_r12, mH_r14, mH_i0, mH_i2, mH_i7, mH_i13, mH_i15, mH_t71, mH_t, mH_lr, mH_l65, mH_l69, mH_l70, mH_l71, mH_l72, mH_l73, mH_l74, mH_l75, mH_c, r1]; rfl) | (show _ = 2; assumption) | (show _ = 1; assumption) | (show _ = 0; assumption) | (show _ = 3; assumption) | (show _ = 4; assumption)) rfl (Nat.le_of_ble_eq_true rfl) (Nat.le_of_ble_eq_true rfl) (m_refP 2 (by omega)) ?_
      rintro _ _ _ ⟨rfl, rfl, rfl⟩
      refine ⟨by show (0 : Nat) ≠ 4; decide, ?_⟩
      rw [if_neg (by show ¬ (0 : Nat) = 3; decide)]
      try dsimp only
      have hM1 := hM0.rf 2
      obtain ⟨v1, hv1⟩ : ∃ v1, v1 = gu v 264 (mv_up (v 264) 0 2) := ⟨_, rfl⟩
      rw [← hv1] at hM1 ⊢
      have z1 : v1 264 0 = 2 := by { rw [hv1, gu_s, up_s] }
      have eo1 : ∀ b : Int, b ≠ 264 → v1 b = v b := fun b hb => by { rw [hv1]; exact gu_n hb }
      have ef1 : ∀ k : Int, k ≠ 0 → v1 264 k = v 264 k := fun k hk => by { rw [hv1, gu_s, up_n hk] }
      have hR1 := hM1.2.1
      have ra1 := hR1.1
      have rb1 := hR1.2.1
      clear hv1
      show mv_Ev _ _ 28 _ _ _ _ _
      refine e_if (t := 33) (pc' := 31) hK rfl (by first | omega | exact bo_i _) (by decide) rfl (fun hb28 => ?_) (fun hb28 => ?_)
      · replace hb28 := cq_eq.1.mp hb28
        try simp only [bo_0, Bool.not_eq_false] at hb28
        exfalso; first | omega | exact absurd trivial (by assumption) | (first | omega | exact bo_i _)
      · replace hb28 := cq_eq.2.mp hb28
        try simp only [bo_0, Bool.not_eq_false] at hb28
        refine e_step (pc' := 32) hK rfl rfl rfl ?_
        refine e_ret hK rfl rfl rfl ?_
        have e9 : sp_next W i x = (2, 0, W) := by { unfold sp_next; (repeat (first | rw [if_pos (by omega)] | rw [if_neg (by omega)])) }
        rw [e9]
        exact ⟨rfl, rfl, v1, rfl, hM1, z1⟩
  · replace hb9 := cq_ne.2.mp hb9
    try simp only [bo_0, Bool.not_eq_false] at hb9
    simp only [Bool.and_eq_false_iff, decide_eq_false_iff_not] at hb9
    refine e_step (pc' := 13) hK rfl rfl rfl ?_
    refine e_goto (t := 25) hK rfl (by decide) ?_
    refine e_cQV2 (z := 110) hK rfl rfl (by first | (simp (disch := omega) only [mH_t64, mH_r1, mH_r3, mH_r4, mH_r5, mH_r6, mH_r8, mH_r9, mH_r10, mH_r11, mH_r12, mH_r14, mH_i0, mH_i2, mH_i7, mH_i13, mH_i15, mH_t71, mH_t, mH_lr, mH_l65, mH_l69, mH_l70, mH_l71, mH_l72, mH_l73, mH_l74, mH_l75, mH_c, r1]; rfl) | (show _ = 2; assumption) | (show _ = 1; assumption) | (show _ = 0; assumption) | (show _ = 3; assumption) | (show _ = 4; assumption)) rfl (Nat.le_of_ble_eq_true rfl) (Nat.le_of_ble_eq_true rfl) (m_refP 1 (by omega)) ?_
    rintro _ _ _ ⟨rfl, rfl, rfl⟩
    refine ⟨by show (0 : Nat) ≠ 4; decide, ?_⟩
    rw [if_neg (by show ¬ (0 : Nat) = 3; decide)]
    try dsimp only
    have hM1 := hM0.rf 1
    obtain ⟨v1, hv1⟩ : ∃ v1, v1 = gu v 264 (mv_up (v 264) 0 1) := ⟨_, rfl⟩
    rw [← hv1] at hM1 ⊢
    have z1 : v1 264 0 = 1 := by { rw [hv1, gu_s, up_s] }
    have eo1 : ∀ b : Int, b ≠ 264 → v1 b = v b := fun b hb => by { rw [hv1]; exact gu_n hb }
    have ef1 : ∀ k : Int, k ≠ 0 → v1 264 k = v 264 k := fun k hk => by { rw [hv1, gu_s, up_n hk] }
    have hR1 := hM1.2.1
    have ra1 := hR1.1
    have rb1 := hR1.2.1
    clear hv1
    show mv_Ev _ _ 28 _ _ _ _ _
    refine e_if (t := 33) (pc' := 31) hK rfl (by first | omega | exact bo_i _) (by decide) rfl (fun hb28 => ?_) (fun hb28 => ?_)
    · replace hb28 := cq_eq.1.mp hb28
      try simp only [bo_0, Bool.not_eq_false] at hb28
      exfalso; first | omega | exact absurd trivial (by assumption) | (first | omega | exact bo_i _)
    · replace hb28 := cq_eq.2.mp hb28
      try simp only [bo_0, Bool.not_eq_false] at hb28
      refine e_step (pc' := 32) hK rfl rfl rfl ?_
      refine e_ret hK rfl rfl rfl ?_
      have e9 : sp_next W i x = (1, 0, W) := by { unfold sp_next; (repeat (first | rw [if_pos (by omega)] | rw [if_neg (by omega)])) }
      rw [e9]
      exact ⟨rfl, rfl, v1, rfl, hM1, z1⟩
set_option maxRecDepth 10000 in
theorem g_pieceL {v0 : mvt} {A : lg} (hR : Rw (v0 266) A) (hI : gI A) (t q x k : Int) (ht0 : 0 ≤ t) (ht1 : t < gT A) (hq0 : 0 ≤ q) (hq1 : q < xn (gs A t)) : ∀ (m : Nat) (i : Nat) (w : mvt), (i + m = gn A ∧ ms v0 w) → mv_Ev sc 140 108 [(2, 264), (0, t), (0, q), (0, x), (0, k), (0, lc (fun i => decide (gP A i = t) && !cz A (gl A i) t q i) i), (0, (i : Int))] [] c (mH h w) (mv_Ms h v0 (cdt A t q) c) := by
  intro m
  induction m with
  | zero =>
    intro i w ⟨hi, hw⟩
    have b1 := hI.1
    have b2 := hI.2.1
    have ew : w 266 = v0 266 := hw 266 (by omega) (by omega) (by omega)
    have r0w : w 266 0 = gn A := by { rw [ew]; exact hR.1 }
    have hK : (mv_m 140).1 = kc_Mod_piece := rfl
    refine e_step (pc' := 110) hK rfl rfl rfl ?_
    refine e_step (pc' := 111) hK rfl rfl rfl ?_
    refine e_getR (ci := 4) (k := 3) (pc' := 114) hK rfl (by simp (disch := omega) only [mH_t64, mH_r1, mH_r3, mH_r4, mH_r5, mH_r6, mH_r8, mH_r9, mH_r10, mH_r11, mH_r12, mH_r14, mH_i0, mH_i2, mH_i7, mH_i13, mH_i15, mH_t71, mH_t, mH_lr, mH_l65, mH_l69, mH_l70, mH_l71, mH_l72, mH_l73, mH_l74, mH_l75, mH_c, r0w]) rfl rfl (by decide) (by decide) (by (try simp (disch := omega) only [mH_t64, mH_r1, mH_r3, mH_r4, mH_r5, mH_r6, mH_r8, mH_r9, mH_r10, mH_r11, mH_r12, mH_r14, mH_i0, mH_i2, mH_i7, mH_i13, mH_i15, mH_t71, mH_t, mH_lr, mH_l65, mH_l69, mH_l70, mH_l71, mH_l72, mH_l73, mH_l74, mH_l75, mH_c, r0w]); first | omega | exact bo_i _) rfl ?_
    try simp (disch := omega) only [mH_t64, mH_r1, mH_r3, mH_r4, mH_r5, mH_r6, mH_r8, mH_r9, mH_r10, mH_r11, mH_r12, mH_r14, mH_i0, mH_i2, mH_i7, mH_i13, mH_i15, mH_t71, mH_t, mH_lr, mH_l65, mH_l69, mH_l70, mH_l71, mH_l72, mH_l73, mH_l74, mH_l75, mH_c, r0w]
    refine e_step (pc' := 115) hK rfl rfl rfl ?_
    refine e_iald (pc' := 116) hK rfl (by simp (disch := omega) only [mH_t64, mH_r1, mH_r3, mH_r4, mH_r5, mH_r6, mH_r8, mH_r9, mH_r10, mH_r11, mH_r12, mH_r14, mH_i0, mH_i2, mH_i7, mH_i13, mH_i15, mH_t71, mH_t, mH_lr, mH_l65, mH_l69, mH_l70, mH_l71, mH_l72, mH_l73, mH_l74, mH_l75, mH_c, r0w]) (by first | omega | exact bo_i _) (by (try simp (disch := omega) only [mH_t64, mH_r1, mH_r3, mH_r4, mH_r5, mH_r6, mH_r8, mH_r9, mH_r10, mH_r11, mH_r12, mH_r14, mH_i0, mH_i2, mH_i7, mH_i13, mH_i15, mH_t71, mH_t, mH_lr, mH_l65, mH_l69, mH_l70, mH_l71, mH_l72, mH_l73, mH_l74, mH_l75, mH_c, r0w]); first | omega | exact bo_i _) rfl ?_
    try simp (disch := omega) only [mH_t64, mH_r1, mH_r3, mH_r4, mH_r5, mH_r6, mH_r8, mH_r9, mH_r10, mH_r11, mH_r12, mH_r14, mH_i0, mH_i2, mH_i7, mH_i13, mH_i15, mH_t71, mH_t, mH_lr, mH_l65, mH_l69, mH_l70, mH_l71, mH_l72, mH_l73, mH_l74, mH_l75, mH_c, r0w]
    refine e_icmp (t := 166) (pc' := 119) hK rfl (by first | omega | exact bo_i _) (by first | omega | exact bo_i _) (by decide) rfl (fun hb116 => ?_) (fun hb116 => ?_)
    · replace hb116 := cq_ge.1.mp hb116
      try simp only [bo_0, Bool.not_eq_false] at hb116
      refine e_step (pc' := 168) hK rfl rfl rfl ?_
      refine e_ret hK rfl rfl rfl ?_
      refine ⟨?_, rfl, w, rfl, hw⟩
      rw [cdt_m hI ht0 ht1 hq0 hq1, show gn A = i from by omega]
    · replace hb116 := cq_ge.2.mp hb116
      try simp only [bo_0, Bool.not_eq_false] at hb116
      exfalso; first | omega | exact absurd trivial (by assumption) | (first | omega | exact bo_i _)
  | succ m ih =>
    intro i w ⟨hi, hw⟩
    have b1 := hI.1
    have b2 := hI.2.1
    have ew : w 266 = v0 266 := hw 266 (by omega) (by omega) (by omega)
    have r0w : w 266 0 = gn A := by { rw [ew]; exact hR.1 }
    have hK : (mv_m 140).1 = kc_Mod_piece := rfl
    refine e_step (pc' := 110) hK rfl rfl rfl ?_
    refine e_step (pc' := 111) hK rfl rfl rfl ?_
    refine e_getR (ci := 4) (k := 3) (pc' := 114) hK rfl (by simp (disch := omega) only [mH_t64, mH_r1, mH_r3, mH_r4, mH_r5, mH_r6, mH_r8, mH_r9, mH_r10, mH_r11, mH_r12, mH_r14, mH_i0, mH_i2, mH_i7, mH_i13, mH_i15, mH_t71, mH_t, mH_lr, mH_l65, mH_l69, mH_l70, mH_l71, mH_l72, mH_l73, mH_l74, mH_l75, mH_c, r0w]) rfl rfl (by decide) (by decide) (by (try simp (disch := omega) only [mH_t64, mH_r1, mH_r3, mH_r4, mH_r5, mH_r6, mH_r8, mH_r9, mH_r10, mH_r11, mH_r12, mH_r14, mH_i0, mH_i2, mH_i7, mH_i13, mH_i15, mH_t71, mH_t, mH_lr, mH_l65, mH_l69, mH_l70, mH_l71, mH_l72, mH_l73, mH_l74, mH_l75, mH_c, r0w]); first | omega | exact bo_i _) rfl ?_
    try simp (disch := omega) only [mH_t64, mH_r1, mH_r3, mH_r4, mH_r5, mH_r6, mH_r8, mH_r9, mH_r10, mH_r11, mH_r12, mH_r14, mH_i0, mH_i2, mH_i7, mH_i13, mH_i15, mH_t71, mH_t, mH_lr, mH_l65, mH_l69, mH_l70, mH_l71, mH_l72, mH_l73, mH_l74, mH_l75, mH_c, r0w]
    refine e_step (pc' := 115) hK rfl rfl rfl ?_
    refine e_iald (pc' := 116) hK rfl (by simp (disch := omega) only [mH_t64, mH_r1, mH_r3, mH_r4, mH_r5, mH_r6, mH_r8, mH_r9, mH_r10, mH_r11, mH_r12, mH_r14, mH_i0, mH_i2, mH_i7, mH_i13, mH_i15, mH_t71, mH_t, mH_lr, mH_l65, mH_l69, mH_l70, mH_l71, mH_l72, mH_l73, mH_l74, mH_l75, mH_c, r0w]) (by first | omega | exact bo_i _) (by (try simp (disch := omega) only [mH_t64, mH_r1, mH_r3, mH_r4, mH_r5, mH_r6, mH_r8, mH_r9, mH_r10, mH_r11, mH_r12, mH_r14, mH_i0, mH_i2, mH_i7, mH_i13, mH_i15, mH_t71, mH_t, mH_lr, mH_l65, mH_l69, mH_l70, mH_l71, mH_l72, mH_l73, mH_l74, mH_l75, mH_c, r0w]); first | omega | exact bo_i _) rfl ?_
    try simp (disch := omega) only [mH_t64, mH_r1, mH_r3, mH_r4, mH_r5, mH_r6, mH_r8, mH_r9, mH_r10, mH_r11, mH_r12, mH_r14, mH_i0, mH_i2, mH_i7, mH_i13, mH_i15, mH_t71, mH_t, mH_lr, mH_l65, mH_l69, mH_l70, mH_l71, mH_l72, mH_l73, mH_l74, mH_l75, mH_c, r0w]
    refine e_icmp (t := 166) (pc' := 119) hK rfl (by first | omega | exact bo_i _) (by first | omega | exact bo_i _) (by decide) rfl (fun hb116 => ?_) (fun hb116 => ?_)
    · replace hb116 := cq_ge.1.mp hb116
      try simp only [bo_0, Bool.not_eq_false] at hb116
      exfalso; first | omega | exact absurd trivial (by assumption) | (first | omega | exact bo_i _)
    · replace hb116 := cq_ge.2.mp hb116
      try simp only [bo_0, Bool.not_eq_false] at hb116
      have rP := (hR.2.2.1 (i : Int) (by omega) (by omega)).2
      rw [← ew] at rP
      have pb := gP_b hI (show (0 : Int) ≤ i by omega) (by omega)
      have egl := gl_L (A := A) (show (0 : Int) ≤ i by omega) (by omega)
      refine e_step (pc' := 121) hK rfl rfl rfl ?_
      refine e_step (pc' := 122) hK rfl rfl rfl ?_
      refine e_getR (ci := 4) (k := 3) (pc' := 125) hK rfl (by simp (disch := omega) only [mH_t64, mH_r1, mH_r3, mH_r4, mH_r5, mH_r6, mH_r8, mH_r9, mH_r10, mH_r11, mH_r12, mH_r14, mH_i0, mH_i2, mH_i7, mH_i13, mH_i15, mH_t71, mH_t, mH_lr, mH_l65, mH_l69, mH_l70, mH_l71, mH_l72, mH_l73, mH_l74, mH_l75, mH_c, r0w, rP]) rfl rfl (by decide) (by decide) (by (try simp (disch := omega) only [mH_t64, mH_r1, mH_r3, mH_r4, mH_r5, mH_r6, mH_r8, mH_r9, mH_r10, mH_r11, mH_r12, mH_r14, mH_i0, mH_i2, mH_i7, mH_i13, mH_i15, mH_t71, mH_t, mH_lr, mH_l65, mH_l69, mH_l70, mH_l71, mH_l72, mH_l73, mH_l74, mH_l75, mH_c, r0w, rP]); first | omega | exact bo_i _) rfl ?_
      try simp (disch := omega) only [mH_t64, mH_r1, mH_r3, mH_r4, mH_r5, mH_r6, mH_r8, mH_r9, mH_r10, mH_r11, mH_r12, mH_r14, mH_i0, mH_i2, mH_i7, mH_i13, mH_i15, mH_t71, mH_t, mH_lr, mH_l65, mH_l69, mH_l70, mH_l71, mH_l72, mH_l73, mH_l74, mH_l75, mH_c, r0w, rP]
      refine e_step (pc' := 127) hK rfl rfl rfl ?_
      refine e_cRS1 (z := 116) (pc' := 130) hK rfl rfl rfl (Nat.le_of_ble_eq_true rfl) (Nat.le_of_ble_eq_true rfl) (m_lineAt (i : Int)) (by decide) rfl ?_
      try simp (disch := omega) only [mH_t64, mH_r1, mH_r3, mH_r4, mH_r5, mH_r6, mH_r8, mH_r9, mH_r10, mH_r11, mH_r12, mH_r14, mH_i0, mH_i2, mH_i7, mH_i13, mH_i15, mH_t71, mH_t, mH_lr, mH_l65, mH_l69, mH_l70, mH_l71, mH_l72, mH_l73, mH_l74, mH_l75, mH_c, r0w, rP]
      refine e_step (pc' := 131) hK rfl rfl rfl ?_
      refine e_step (pc' := 132) hK rfl rfl rfl ?_
      refine e_iald (pc' := 133) hK rfl (by simp (disch := omega) only [mH_t64, mH_r1, mH_r3, mH_r4, mH_r5, mH_r6, mH_r8, mH_r9, mH_r10, mH_r11, mH_r12, mH_r14, mH_i0, mH_i2, mH_i7, mH_i13, mH_i15, mH_t71, mH_t, mH_lr, mH_l65, mH_l69, mH_l70, mH_l71, mH_l72, mH_l73, mH_l74, mH_l75, mH_c, r0w, rP]) (by first | omega | exact bo_i _) (by (try simp (disch := omega) only [mH_t64, mH_r1, mH_r3, mH_r4, mH_r5, mH_r6, mH_r8, mH_r9, mH_r10, mH_r11, mH_r12, mH_r14, mH_i0, mH_i2, mH_i7, mH_i13, mH_i15, mH_t71, mH_t, mH_lr, mH_l65, mH_l69, mH_l70, mH_l71, mH_l72, mH_l73, mH_l74, mH_l75, mH_c, r0w, rP]); first | omega | exact bo_i _) rfl ?_
      try simp (disch := omega) only [mH_t64, mH_r1, mH_r3, mH_r4, mH_r5, mH_r6, mH_r8, mH_r9, mH_r10, mH_r11, mH_r12, mH_r14, mH_i0, mH_i2, mH_i7, mH_i13, mH_i15, mH_t71, mH_t, mH_lr, mH_l65, mH_l69, mH_l70, mH_l71, mH_l72, mH_l73, mH_l74, mH_l75, mH_c, r0w, rP]
      refine e_step (pc' := 134) hK rfl rfl rfl ?_
      refine e_icmp (t := 156) (pc' := 137) hK rfl (by first | omega | exact bo_i _) (by first | omega | exact bo_i _) (by decide) rfl (fun hb134 => ?_) (fun hb134 => ?_)
      · replace hb134 := cq_ne.1.mp hb134
        try simp only [bo_0, Bool.not_eq_false] at hb134
        refine e_step (pc' := 157) hK rfl rfl rfl ?_
        refine e_step (pc' := 158) hK rfl rfl rfl ?_
        refine e_step (pc' := 160) hK rfl rfl rfl ?_
        try simp only [List.set_cons_zero, List.set_cons_succ]
        refine e_step (pc' := 163) hK rfl rfl rfl ?_
        try simp only [List.set_cons_zero, List.set_cons_succ]
        refine e_goto (t := 108) hK rfl (by decide) ?_
        rw [Int.add_zero, ← lc_f (q := fun i => decide (gP A i = t) && !cz A (gl A i) t q i) (by { show (decide _ && !cz A (gl A (i : Int)) t q i) = false; rw [decide_eq_false hb134]; rfl })]
        exact ih (i + 1) w ⟨by omega, hw⟩
      · replace hb134 := cq_ne.2.mp hb134
        try simp only [bo_0, Bool.not_eq_false] at hb134
        refine e_step (pc' := 138) hK rfl rfl rfl ?_
        refine e_step (pc' := 139) hK rfl rfl rfl ?_
        refine e_getR (ci := 4) (k := 3) (pc' := 142) hK rfl (by simp (disch := omega) only [mH_t64, mH_r1, mH_r3, mH_r4, mH_r5, mH_r6, mH_r8, mH_r9, mH_r10, mH_r11, mH_r12, mH_r14, mH_i0, mH_i2, mH_i7, mH_i13, mH_i15, mH_t71, mH_t, mH_lr, mH_l65, mH_l69, mH_l70, mH_l71, mH_l72, mH_l73, mH_l74, mH_l75, mH_c, r0w, rP]) rfl rfl (by decide) (by decide) (by (try simp (disch := omega) only [mH_t64, mH_r1, mH_r3, mH_r4, mH_r5, mH_r6, mH_r8, mH_r9, mH_r10, mH_r11, mH_r12, mH_r14, mH_i0, mH_i2, mH_i7, mH_i13, mH_i15, mH_t71, mH_t, mH_lr, mH_l65, mH_l69, mH_l70, mH_l71, mH_l72, mH_l73, mH_l74, mH_l75, mH_c, r0w, rP]); first | omega | exact bo_i _) rfl ?_
        try simp (disch := omega) only [mH_t64, mH_r1, mH_r3, mH_r4, mH_r5, mH_r6, mH_r8, mH_r9, mH_r10, mH_r11, mH_r12, mH_r14, mH_i0, mH_i2, mH_i7, mH_i13, mH_i15, mH_t71, mH_t, mH_lr, mH_l65, mH_l69, mH_l70, mH_l71, mH_l72, mH_l73, mH_l74, mH_l75, mH_c, r0w, rP]
        refine e_step (pc' := 143) hK rfl rfl rfl ?_
        refine e_step (pc' := 145) hK rfl rfl rfl ?_
        refine e_step (pc' := 146) hK rfl rfl rfl ?_
        refine e_cQV5 (z := 142) hK rfl rfl (by first | (simp (disch := omega) only [mH_t64, mH_r1, mH_r3, mH_r4, mH_r5, mH_r6, mH_r8, mH_r9, mH_r10, mH_r11, mH_r12, mH_r14, mH_i0, mH_i2, mH_i7, mH_i13, mH_i15, mH_t71, mH_t, mH_lr, mH_l65, mH_l69, mH_l70, mH_l71, mH_l72, mH_l73, mH_l74, mH_l75, mH_c, r0w, rP]; rfl) | (show _ = 2; assumption) | (show _ = 1; assumption) | (show _ = 0; assumption) | (show _ = 3; assumption) | (show _ = 4; assumption)) rfl (Nat.le_of_ble_eq_true rfl) (Nat.le_of_ble_eq_true rfl) (m_newThing 266 (by omega) (by rw [ew]; exact hR) hI t (i : Int) q (by omega) (by omega) hb134 hq0 hq1) ?_
        rintro _ _ _ ⟨rfl, rfl, u, rfl, hu⟩
        refine ⟨by show (0 : Nat) ≠ 4; decide, ?_⟩
        rw [if_neg (by show ¬ (0 : Nat) = 3; decide)]
        try dsimp only
        show mv_Ev _ _ 149 _ _ _ _ _
        refine e_if (t := 156) (pc' := 152) hK rfl (by first | omega | exact bo_i _) (by decide) rfl (fun hb149 => ?_) (fun hb149 => ?_)
        · replace hb149 := cq_eq.1.mp hb149
          try simp only [bo_0, Bool.not_eq_false] at hb149
          refine e_step (pc' := 157) hK rfl rfl rfl ?_
          refine e_step (pc' := 158) hK rfl rfl rfl ?_
          refine e_step (pc' := 160) hK rfl rfl rfl ?_
          try simp only [List.set_cons_zero, List.set_cons_succ]
          refine e_step (pc' := 163) hK rfl rfl rfl ?_
          try simp only [List.set_cons_zero, List.set_cons_succ]
          refine e_goto (t := 108) hK rfl (by decide) ?_
          rw [Int.add_zero, ← lc_f (q := fun i => decide (gP A i = t) && !cz A (gl A i) t q i) (by { show (decide _ && !cz A (gl A (i : Int)) t q i) = false; rw [egl, hb149, Bool.and_false] })]
          exact ih (i + 1) u ⟨by omega, ms_t hw hu⟩
        · replace hb149 := cq_eq.2.mp hb149
          try simp only [bo_0, Bool.not_eq_false] at hb149
          refine e_step (pc' := 153) hK rfl rfl rfl ?_
          refine e_goto (t := 157) hK rfl (by decide) ?_
          refine e_step (pc' := 158) hK rfl rfl rfl ?_
          refine e_step (pc' := 160) hK rfl rfl rfl ?_
          try simp only [List.set_cons_zero, List.set_cons_succ]
          refine e_step (pc' := 163) hK rfl rfl rfl ?_
          try simp only [List.set_cons_zero, List.set_cons_succ]
          refine e_goto (t := 108) hK rfl (by decide) ?_
          rw [← lc_t (q := fun i => decide (gP A i = t) && !cz A (gl A i) t q i) (by { show (decide _ && !cz A (gl A (i : Int)) t q i) = true; rw [decide_eq_true hb134, egl]; exact hb149 })]
          exact ih (i + 1) u ⟨by omega, ms_t hw hu⟩
set_option maxRecDepth 10000 in
theorem g_piece {W : wt} (hM : MdA v W) (t : Int) (ht : mv_i t) (q : Int) (hq : mv_i q) (x : Int) (hx : mv_i x) : mv_Cl sc q_Mod_piece [(2, 264), (0, t), (0, q), (0, x)] c (mH h v) (fun r c' h' => r = (0, (sp_piece W t q x).2.1) ∧ c' = c ∧ ∃ w, h' = mH h w ∧ MdA w (sp_piece W t q x).2.2 ∧ w 264 0 = (sp_piece W t q x).1) := by
  have hM0 := hM
  obtain ⟨hTx, hR, ⟨hI, bn, bT⟩, hH, hz, hSv⟩ := hM
  have r0 := hR.1
  have r1 := hR.2.1
  show mv_Ev sc 140 0 [(2, 264), (0, t), (0, q), (0, x), (5, 0), (5, 0), (5, 0)] [] c (mH h v) _
  have hK : (mv_m 140).1 = kc_Mod_piece := rfl
  refine e_step (pc' := 1) hK rfl rfl rfl ?_
  refine e_step (pc' := 2) hK rfl rfl rfl ?_
  refine e_getR (ci := 4) (k := 3) (pc' := 5) hK rfl (by simp (disch := omega) only [mH_t64, mH_r1, mH_r3, mH_r4, mH_r5, mH_r6, mH_r8, mH_r9, mH_r10, mH_r11, mH_r12, mH_r14, mH_i0, mH_i2, mH_i7, mH_i13, mH_i15, mH_t71, mH_t, mH_lr, mH_l65, mH_l69, mH_l70, mH_l71, mH_l72, mH_l73, mH_l74, mH_l75, mH_c]) rfl rfl (by decide) (by decide) (by (try simp (disch := omega) only [mH_t64, mH_r1, mH_r3, mH_r4, mH_r5, mH_r6, mH_r8, mH_r9, mH_r10, mH_r11, mH_r12, mH_r14, mH_i0, mH_i2, mH_i7, mH_i13, mH_i15, mH_t71, mH_t, mH_lr, mH_l65, mH_l69, mH_l70, mH_l71, mH_l72, mH_l73, mH_l74, mH_l75, mH_c]); first | omega | exact bo_i _) rfl ?_
  try simp (disch := omega) only [mH_t64, mH_r1, mH_r3, mH_r4, mH_r5, mH_r6, mH_r8, mH_r9, mH_r10, mH_r11, mH_r12, mH_r14, mH_i0, mH_i2, mH_i7, mH_i13, mH_i15, mH_t71, mH_t, mH_lr, mH_l65, mH_l69, mH_l70, mH_l71, mH_l72, mH_l73, mH_l74, mH_l75, mH_c]
  refine e_step (pc' := 6) hK rfl rfl rfl ?_
  refine e_step (pc' := 7) hK rfl rfl rfl ?_
  refine e_cRS3 (z := 141) (pc' := 10) hK rfl rfl rfl (Nat.le_of_ble_eq_true rfl) (Nat.le_of_ble_eq_true rfl) (m_isPiece 266 (by omega) hR hI t q ht hq) (by decide) rfl ?_
  try simp (disch := omega) only [mH_t64, mH_r1, mH_r3, mH_r4, mH_r5, mH_r6, mH_r8, mH_r9, mH_r10, mH_r11, mH_r12, mH_r14, mH_i0, mH_i2, mH_i7, mH_i13, mH_i15, mH_t71, mH_t, mH_lr, mH_l65, mH_l69, mH_l70, mH_l71, mH_l72, mH_l73, mH_l74, mH_l75, mH_c]
  refine e_if (t := 17) (pc' := 13) hK rfl (by first | omega | exact bo_i _) (by decide) rfl (fun hb10 => ?_) (fun hb10 => ?_)
  · replace hb10 := cq_ne.1.mp hb10
    try simp only [bo_0, Bool.not_eq_false] at hb10
    have tb : 0 ≤ t ∧ t < gT (wA W) ∧ 0 ≤ q ∧ q < xn (gs (wA W) t) := of_decide_eq_true hb10
    have xb := xn_b (gSok hI tb.1 tb.2.1)
    have rk0 := (hR.2.2.2 t tb.1 tb.2.1).2 q tb.2.2.1 (by rw [← gs_S tb.1 tb.2.1]; exact tb.2.2.2)
    have kb := gk_i hI tb.1 tb.2.1 tb.2.2.1 tb.2.2.2
    refine e_step (pc' := 18) hK rfl rfl rfl ?_
    refine e_i2l (pc' := 19) hK rfl (by first | omega | exact bo_i _) rfl ?_
    refine e_step (pc' := 20) hK rfl rfl rfl ?_
    show mv_Ev _ _ 20 _ ((1, (0 : Int)) :: _) _ _ _
    refine e_step (pc' := 23) hK rfl rfl rfl ?_
    refine e_cRS3 (z := 109) (pc' := 26) hK rfl rfl rfl (Nat.le_of_ble_eq_true rfl) (Nat.le_of_ble_eq_true rfl) (m_in x 0 2 (by omega) (by omega) (by omega)) (by decide) rfl ?_
    try simp (disch := omega) only [mH_t64, mH_r1, mH_r3, mH_r4, mH_r5, mH_r6, mH_r8, mH_r9, mH_r10, mH_r11, mH_r12, mH_r14, mH_i0, mH_i2, mH_i7, mH_i13, mH_i15, mH_t71, mH_t, mH_lr, mH_l65, mH_l69, mH_l70, mH_l71, mH_l72, mH_l73, mH_l74, mH_l75, mH_c]
    refine e_if (t := 33) (pc' := 29) hK rfl (by first | omega | exact bo_i _) (by decide) rfl (fun hb26 => ?_) (fun hb26 => ?_)
    · replace hb26 := cq_eq.1.mp hb26
      try simp only [bo_0, Bool.not_eq_false] at hb26
      simp only [Bool.and_eq_false_iff, decide_eq_false_iff_not] at hb26
      refine e_step (pc' := 34) hK rfl rfl rfl ?_
      refine e_cQV2 (z := 110) hK rfl rfl (by first | (simp (disch := omega) only [mH_t64, mH_r1, mH_r3, mH_r4, mH_r5, mH_r6, mH_r8, mH_r9, mH_r10, mH_r11, mH_r12, mH_r14, mH_i0, mH_i2, mH_i7, mH_i13, mH_i15, mH_t71, mH_t, mH_lr, mH_l65, mH_l69, mH_l70, mH_l71, mH_l72, mH_l73, mH_l74, mH_l75, mH_c]; rfl) | (show _ = 2; assumption) | (show _ = 1; assumption) | (show _ = 0; assumption) | (show _ = 3; assumption) | (show _ = 4; assumption)) rfl (Nat.le_of_ble_eq_true rfl) (Nat.le_of_ble_eq_true rfl) (m_refP 2 (by omega)) ?_
      rintro _ _ _ ⟨rfl, rfl, rfl⟩
      refine ⟨by show (0 : Nat) ≠ 4; decide, ?_⟩
      rw [if_neg (by show ¬ (0 : Nat) = 3; decide)]
      try dsimp only
      have hM1 := hM0.rf 2
      obtain ⟨v1, hv1⟩ : ∃ v1, v1 = gu v 264 (mv_up (v 264) 0 2) := ⟨_, rfl⟩
      rw [← hv1] at hM1 ⊢
      have z1 : v1 264 0 = 2 := by { rw [hv1, gu_s, up_s] }
      have eo1 : ∀ b : Int, b ≠ 264 → v1 b = v b := fun b hb => by { rw [hv1]; exact gu_n hb }
      have ef1 : ∀ k : Int, k ≠ 0 → v1 264 k = v 264 k := fun k hk => by { rw [hv1, gu_s, up_n hk] }
      have hR1 := hM1.2.1
      have ra1 := hR1.1
      have rb1 := hR1.2.1
      clear hv1
      show mv_Ev _ _ 37 _ _ _ _ _
      refine e_if (t := 42) (pc' := 40) hK rfl (by first | omega | exact bo_i _) (by decide) rfl (fun hb37 => ?_) (fun hb37 => ?_)
      · replace hb37 := cq_eq.1.mp hb37
        try simp only [bo_0, Bool.not_eq_false] at hb37
        exfalso; first | omega | exact absurd trivial (by assumption) | (first | omega | exact bo_i _)
      · replace hb37 := cq_eq.2.mp hb37
        try simp only [bo_0, Bool.not_eq_false] at hb37
        refine e_step (pc' := 41) hK rfl rfl rfl ?_
        refine e_ret hK rfl rfl rfl ?_
        have e9 : sp_piece W t q x = (2, 0, W) := by { unfold sp_piece; (repeat (first | rw [if_pos (by omega)] | rw [if_neg (by omega)])) }
        rw [e9]
        exact ⟨rfl, rfl, v1, rfl, hM1, z1⟩
    · replace hb26 := cq_eq.2.mp hb26
      try simp only [bo_0, Bool.not_eq_false] at hb26
      simp only [Bool.and_eq_true, decide_eq_true_eq] at hb26
      refine e_step (pc' := 30) hK rfl rfl rfl ?_
      refine e_goto (t := 34) hK rfl (by decide) ?_
      refine e_cQV2 (z := 110) hK rfl rfl (by first | (simp (disch := omega) only [mH_t64, mH_r1, mH_r3, mH_r4, mH_r5, mH_r6, mH_r8, mH_r9, mH_r10, mH_r11, mH_r12, mH_r14, mH_i0, mH_i2, mH_i7, mH_i13, mH_i15, mH_t71, mH_t, mH_lr, mH_l65, mH_l69, mH_l70, mH_l71, mH_l72, mH_l73, mH_l74, mH_l75, mH_c]; rfl) | (show _ = 2; assumption) | (show _ = 1; assumption) | (show _ = 0; assumption) | (show _ = 3; assumption) | (show _ = 4; assumption)) rfl (Nat.le_of_ble_eq_true rfl) (Nat.le_of_ble_eq_true rfl) (m_ref0) ?_
      rintro _ _ _ ⟨rfl, rfl, rfl⟩
      refine ⟨by show (0 : Nat) ≠ 4; decide, ?_⟩
      rw [if_neg (by show ¬ (0 : Nat) = 3; decide)]
      try dsimp only
      have hM1 := hM0.rf 0
      obtain ⟨v1, hv1⟩ : ∃ v1, v1 = gu v 264 (mv_up (v 264) 0 0) := ⟨_, rfl⟩
      rw [← hv1] at hM1 ⊢
      have z1 : v1 264 0 = 0 := by { rw [hv1, gu_s, up_s] }
      have eo1 : ∀ b : Int, b ≠ 264 → v1 b = v b := fun b hb => by { rw [hv1]; exact gu_n hb }
      have ef1 : ∀ k : Int, k ≠ 0 → v1 264 k = v 264 k := fun k hk => by { rw [hv1, gu_s, up_n hk] }
      have hR1 := hM1.2.1
      have ra1 := hR1.1
      have rb1 := hR1.2.1
      clear hv1
      show mv_Ev _ _ 37 _ _ _ _ _
      refine e_if (t := 42) (pc' := 40) hK rfl (by first | omega | exact bo_i _) (by decide) rfl (fun hb37 => ?_) (fun hb37 => ?_)
      · replace hb37 := cq_eq.1.mp hb37
        try simp only [bo_0, Bool.not_eq_false] at hb37
        have rk : v1 266 (1052 + 13 * t + 1 + q) = gk (wA W) t q := by { rw [eo1 266 (by omega)]; exact rk0 }
        have hg := gfi_b hI tb.1 tb.2.1
        have hgl := gI_l hI hg.1 hg.2.1 hg.2.2.1
        have k3 := gI_k3 hI hg.1 hg.2.1 hg.2.2.1 tb.2.2.1 tb.2.2.2
        refine e_step (pc' := 43) hK rfl rfl rfl ?_
        refine e_getR (ci := 4) (k := 3) (pc' := 46) hK rfl (by simp (disch := omega) only [mH_t64, mH_r1, mH_r3, mH_r4, mH_r5, mH_r6, mH_r8, mH_r9, mH_r10, mH_r11, mH_r12, mH_r14, mH_i0, mH_i2, mH_i7, mH_i13, mH_i15, mH_t71, mH_t, mH_lr, mH_l65, mH_l69, mH_l70, mH_l71, mH_l72, mH_l73, mH_l74, mH_l75, mH_c, ra1, rb1, rk]) rfl rfl (by decide) (by decide) (by (try simp (disch := omega) only [mH_t64, mH_r1, mH_r3, mH_r4, mH_r5, mH_r6, mH_r8, mH_r9, mH_r10, mH_r11, mH_r12, mH_r14, mH_i0, mH_i2, mH_i7, mH_i13, mH_i15, mH_t71, mH_t, mH_lr, mH_l65, mH_l69, mH_l70, mH_l71, mH_l72, mH_l73, mH_l74, mH_l75, mH_c, ra1, rb1, rk]); first | omega | exact bo_i _) rfl ?_
        try simp (disch := omega) only [mH_t64, mH_r1, mH_r3, mH_r4, mH_r5, mH_r6, mH_r8, mH_r9, mH_r10, mH_r11, mH_r12, mH_r14, mH_i0, mH_i2, mH_i7, mH_i13, mH_i15, mH_t71, mH_t, mH_lr, mH_l65, mH_l69, mH_l70, mH_l71, mH_l72, mH_l73, mH_l74, mH_l75, mH_c, ra1, rb1, rk]
        refine e_step (pc' := 47) hK rfl rfl rfl ?_
        refine e_step (pc' := 48) hK rfl rfl rfl ?_
        refine e_cRS3 (z := 120) (pc' := 51) hK rfl rfl rfl (Nat.le_of_ble_eq_true rfl) (Nat.le_of_ble_eq_true rfl) (m_kindOf 266 (by omega) t q (by omega) (by omega)) (by decide) rfl ?_
        try simp (disch := omega) only [mH_t64, mH_r1, mH_r3, mH_r4, mH_r5, mH_r6, mH_r8, mH_r9, mH_r10, mH_r11, mH_r12, mH_r14, mH_i0, mH_i2, mH_i7, mH_i13, mH_i15, mH_t71, mH_t, mH_lr, mH_l65, mH_l69, mH_l70, mH_l71, mH_l72, mH_l73, mH_l74, mH_l75, mH_c, ra1, rb1, rk]
        refine e_step (pc' := 53) hK rfl rfl rfl ?_
        try simp only [List.set_cons_zero, List.set_cons_succ]
        refine e_step (pc' := 54) hK rfl rfl rfl ?_
        refine e_step (pc' := 55) hK rfl rfl rfl ?_
        refine e_icmp (t := 102) (pc' := 58) hK rfl (by first | omega | exact bo_i _) (by first | omega | exact bo_i _) (by decide) rfl (fun hb55 => ?_) (fun hb55 => ?_)
        · replace hb55 := cq_ge.1.mp hb55
          try simp only [bo_0, Bool.not_eq_false] at hb55
          refine e_step (pc' := 103) hK rfl rfl rfl ?_
          refine e_step (pc' := 105) hK rfl rfl rfl ?_
          try simp only [List.set_cons_zero, List.set_cons_succ]
          refine e_step (pc' := 106) hK rfl rfl rfl ?_
          refine e_step (pc' := 108) hK rfl rfl rfl ?_
          try simp only [List.set_cons_zero, List.set_cons_succ]
          refine (g_pieceL hR1 hI t q x _ tb.1 tb.2.1 tb.2.2.1 tb.2.2.2 (gn (wA W)) 0 v1 ⟨by omega, ms_r v1⟩).mono (fun r c' h' hq => ?_)
          obtain ⟨rfl, rfl, w, rfl, hw⟩ := hq
          have e9 : sp_piece W t q x = (0, cdt (wA W) t q, W) := by { unfold sp_piece; (repeat (first | rw [if_pos (by omega)] | rw [if_neg (by omega)])) }
          rw [e9]
          exact ⟨rfl, rfl, w, rfl, hM1.ms hw, (congrFun (hw 264 (by omega) (by omega) (by omega)) 0).trans z1⟩
        · replace hb55 := cq_ge.2.mp hb55
          try simp only [bo_0, Bool.not_eq_false] at hb55
          refine e_step (pc' := 59) hK rfl rfl rfl ?_
          refine e_step (pc' := 60) hK rfl rfl rfl ?_
          refine e_getR (ci := 4) (k := 3) (pc' := 63) hK rfl (by simp (disch := omega) only [mH_t64, mH_r1, mH_r3, mH_r4, mH_r5, mH_r6, mH_r8, mH_r9, mH_r10, mH_r11, mH_r12, mH_r14, mH_i0, mH_i2, mH_i7, mH_i13, mH_i15, mH_t71, mH_t, mH_lr, mH_l65, mH_l69, mH_l70, mH_l71, mH_l72, mH_l73, mH_l74, mH_l75, mH_c, ra1, rb1, rk]) rfl rfl (by decide) (by decide) (by (try simp (disch := omega) only [mH_t64, mH_r1, mH_r3, mH_r4, mH_r5, mH_r6, mH_r8, mH_r9, mH_r10, mH_r11, mH_r12, mH_r14, mH_i0, mH_i2, mH_i7, mH_i13, mH_i15, mH_t71, mH_t, mH_lr, mH_l65, mH_l69, mH_l70, mH_l71, mH_l72, mH_l73, mH_l74, mH_l75, mH_c, ra1, rb1, rk]); first | omega | exact bo_i _) rfl ?_
          try simp (disch := omega) only [mH_t64, mH_r1, mH_r3, mH_r4, mH_r5, mH_r6, mH_r8, mH_r9, mH_r10, mH_r11, mH_r12, mH_r14, mH_i0, mH_i2, mH_i7, mH_i13, mH_i15, mH_t71, mH_t, mH_lr, mH_l65, mH_l69, mH_l70, mH_l71, mH_l72, mH_l73, mH_l74, mH_l75, mH_c, ra1, rb1, rk]
          refine e_step (pc' := 64) hK rfl rfl rfl ?_
          refine e_getR (ci := 4) (k := 3) (pc' := 67) hK rfl (by simp (disch := omega) only [mH_t64, mH_r1, mH_r3, mH_r4, mH_r5, mH_r6, mH_r8, mH_r9, mH_r10, mH_r11, mH_r12, mH_r14, mH_i0, mH_i2, mH_i7, mH_i13, mH_i15, mH_t71, mH_t, mH_lr, mH_l65, mH_l69, mH_l70, mH_l71, mH_l72, mH_l73, mH_l74, mH_l75, mH_c, ra1, rb1, rk]) rfl rfl (by decide) (by decide) (by (try simp (disch := omega) only [mH_t64, mH_r1, mH_r3, mH_r4, mH_r5, mH_r6, mH_r8, mH_r9, mH_r10, mH_r11, mH_r12, mH_r14, mH_i0, mH_i2, mH_i7, mH_i13, mH_i15, mH_t71, mH_t, mH_lr, mH_l65, mH_l69, mH_l70, mH_l71, mH_l72, mH_l73, mH_l74, mH_l75, mH_c, ra1, rb1, rk]); first | omega | exact bo_i _) rfl ?_
          try simp (disch := omega) only [mH_t64, mH_r1, mH_r3, mH_r4, mH_r5, mH_r6, mH_r8, mH_r9, mH_r10, mH_r11, mH_r12, mH_r14, mH_i0, mH_i2, mH_i7, mH_i13, mH_i15, mH_t71, mH_t, mH_lr, mH_l65, mH_l69, mH_l70, mH_l71, mH_l72, mH_l73, mH_l74, mH_l75, mH_c, ra1, rb1, rk]
          refine e_step (pc' := 68) hK rfl rfl rfl ?_
          refine e_cRS2 (z := 129) (pc' := 71) hK rfl rfl rfl (Nat.le_of_ble_eq_true rfl) (Nat.le_of_ble_eq_true rfl) (m_first 266 (by omega) hR1 hI t tb.1 tb.2.1) (by decide) rfl ?_
          try simp (disch := omega) only [mH_t64, mH_r1, mH_r3, mH_r4, mH_r5, mH_r6, mH_r8, mH_r9, mH_r10, mH_r11, mH_r12, mH_r14, mH_i0, mH_i2, mH_i7, mH_i13, mH_i15, mH_t71, mH_t, mH_lr, mH_l65, mH_l69, mH_l70, mH_l71, mH_l72, mH_l73, mH_l74, mH_l75, mH_c, ra1, rb1, rk]
          refine e_step (pc' := 72) hK rfl rfl rfl ?_
          refine e_cQV4 (z := 123) hK rfl rfl (by first | (simp (disch := omega) only [mH_t64, mH_r1, mH_r3, mH_r4, mH_r5, mH_r6, mH_r8, mH_r9, mH_r10, mH_r11, mH_r12, mH_r14, mH_i0, mH_i2, mH_i7, mH_i13, mH_i15, mH_t71, mH_t, mH_lr, mH_l65, mH_l69, mH_l70, mH_l71, mH_l72, mH_l73, mH_l74, mH_l75, mH_c, ra1, rb1, rk]; rfl) | (show _ = 2; assumption) | (show _ = 1; assumption) | (show _ = 0; assumption) | (show _ = 3; assumption) | (show _ = 4; assumption)) rfl (Nat.le_of_ble_eq_true rfl) (Nat.le_of_ble_eq_true rfl) (m_cut 266 (by omega) (gfi (wA W) t) 0 ⟨hg.1, by omega⟩ (Or.inl rfl) hgl.2.2.1 (hR1.2.2.1 _ hg.1 hg.2.1).1) ?_
          rintro _ _ _ ⟨rfl, rfl, w, rfl, hw, kw⟩
          refine ⟨by show (0 : Nat) ≠ 4; decide, ?_⟩
          rw [if_neg (by show ¬ (0 : Nat) = 3; decide)]
          try dsimp only
          have zz := (Ct_x (p := q) kw tb.2.2.1 (by omega)).2.1
          rw [Int.zero_add] at zz
          show mv_Ev _ _ 75 _ _ _ _ _
          refine e_step (pc' := 76) hK rfl rfl rfl ?_
          refine e_step (pc' := 77) hK rfl rfl rfl ?_
          refine e_if (t := 85) (pc' := 80) hK rfl (by first | omega | exact bo_i _) (by decide) rfl (fun hb77 => ?_) (fun hb77 => ?_)
          · replace hb77 := cq_ne.1.mp hb77
            try simp only [bo_0, Bool.not_eq_false] at hb77
            refine e_step (pc' := 87) hK rfl rfl rfl ?_
            refine e_step (pc' := 88) hK rfl rfl rfl ?_
            refine e_icmp (t := 100) (pc' := 91) hK rfl (by first | omega | exact bo_i _) (by first | omega | exact bo_i _) (by decide) rfl (fun hb88 => ?_) (fun hb88 => ?_)
            · replace hb88 := cq_ge.1.mp hb88
              try simp only [bo_0, Bool.not_eq_false] at hb88
              refine e_step (pc' := 101) hK rfl rfl rfl ?_
              refine e_ret hK rfl rfl rfl ?_
              have e9 : sp_piece W t q x = (0, 0, W) := by { unfold sp_piece; (repeat (first | rw [if_pos (by omega)] | rw [if_neg (by omega)])) }
              rw [e9]
              exact ⟨rfl, rfl, w, rfl, hM1.ms hw.1, (congrFun (hw.1 264 (by omega) (by omega) (by omega)) 0).trans z1⟩
            · replace hb88 := cq_ge.2.mp hb88
              try simp only [bo_0, Bool.not_eq_false] at hb88
              refine e_step (pc' := 92) hK rfl rfl rfl ?_
              refine e_getR (ci := 4) (k := 11) (pc' := 95) hK rfl (by simp (disch := omega) only [mH_t64, mH_r1, mH_r3, mH_r4, mH_r5, mH_r6, mH_r8, mH_r9, mH_r10, mH_r11, mH_r12, mH_r14, mH_i0, mH_i2, mH_i7, mH_i13, mH_i15, mH_t71, mH_t, mH_lr, mH_l65, mH_l69, mH_l70, mH_l71, mH_l72, mH_l73, mH_l74, mH_l75, mH_c, ra1, rb1, rk, zz]) rfl rfl (by decide) (by decide) (by (try simp (disch := omega) only [mH_t64, mH_r1, mH_r3, mH_r4, mH_r5, mH_r6, mH_r8, mH_r9, mH_r10, mH_r11, mH_r12, mH_r14, mH_i0, mH_i2, mH_i7, mH_i13, mH_i15, mH_t71, mH_t, mH_lr, mH_l65, mH_l69, mH_l70, mH_l71, mH_l72, mH_l73, mH_l74, mH_l75, mH_c, ra1, rb1, rk, zz]); first | omega | exact bo_i _) rfl ?_
              try simp (disch := omega) only [mH_t64, mH_r1, mH_r3, mH_r4, mH_r5, mH_r6, mH_r8, mH_r9, mH_r10, mH_r11, mH_r12, mH_r14, mH_i0, mH_i2, mH_i7, mH_i13, mH_i15, mH_t71, mH_t, mH_lr, mH_l65, mH_l69, mH_l70, mH_l71, mH_l72, mH_l73, mH_l74, mH_l75, mH_c, ra1, rb1, rk, zz]
              refine e_step (pc' := 96) hK rfl rfl rfl ?_
              refine e_iald (pc' := 97) hK rfl (by simp (disch := omega) only [mH_t64, mH_r1, mH_r3, mH_r4, mH_r5, mH_r6, mH_r8, mH_r9, mH_r10, mH_r11, mH_r12, mH_r14, mH_i0, mH_i2, mH_i7, mH_i13, mH_i15, mH_t71, mH_t, mH_lr, mH_l65, mH_l69, mH_l70, mH_l71, mH_l72, mH_l73, mH_l74, mH_l75, mH_c, ra1, rb1, rk, zz]) (by first | omega | exact bo_i _) (by (try simp (disch := omega) only [mH_t64, mH_r1, mH_r3, mH_r4, mH_r5, mH_r6, mH_r8, mH_r9, mH_r10, mH_r11, mH_r12, mH_r14, mH_i0, mH_i2, mH_i7, mH_i13, mH_i15, mH_t71, mH_t, mH_lr, mH_l65, mH_l69, mH_l70, mH_l71, mH_l72, mH_l73, mH_l74, mH_l75, mH_c, ra1, rb1, rk, zz]); first | omega | exact bo_i _) rfl ?_
              try simp (disch := omega) only [mH_t64, mH_r1, mH_r3, mH_r4, mH_r5, mH_r6, mH_r8, mH_r9, mH_r10, mH_r11, mH_r12, mH_r14, mH_i0, mH_i2, mH_i7, mH_i13, mH_i15, mH_t71, mH_t, mH_lr, mH_l65, mH_l69, mH_l70, mH_l71, mH_l72, mH_l73, mH_l74, mH_l75, mH_c, ra1, rb1, rk, zz]
              refine e_goto (t := 101) hK rfl (by decide) ?_
              refine e_ret hK rfl rfl rfl ?_
              have e9 : sp_piece W t q x = (0, xz (gL (wA W) (gfi (wA W) t)) q, W) := by { unfold sp_piece; rw [xw_z (k3.2.2 hb88).2]; (repeat (first | rw [if_pos (by omega)] | rw [if_neg (by omega)])) }
              rw [e9]
              exact ⟨rfl, rfl, w, rfl, hM1.ms hw.1, (congrFun (hw.1 264 (by omega) (by omega) (by omega)) 0).trans z1⟩
          · replace hb77 := cq_ne.2.mp hb77
            try simp only [bo_0, Bool.not_eq_false] at hb77
            refine e_step (pc' := 82) hK rfl rfl rfl ?_
            refine e_goto (t := 101) hK rfl (by decide) ?_
            refine e_ret hK rfl rfl rfl ?_
            have e9 : sp_piece W t q x = (0, gk (wA W) t q, W) := by { unfold sp_piece; (repeat (first | rw [if_pos (by omega)] | rw [if_neg (by omega)])) }
            rw [e9]
            exact ⟨rfl, rfl, w, rfl, hM1.ms hw.1, (congrFun (hw.1 264 (by omega) (by omega) (by omega)) 0).trans z1⟩
      · replace hb37 := cq_eq.2.mp hb37
        try simp only [bo_0, Bool.not_eq_false] at hb37
        exfalso; first | omega | exact absurd trivial (by assumption) | (first | omega | exact bo_i _)
  · replace hb10 := cq_ne.2.mp hb10
    try simp only [bo_0, Bool.not_eq_false] at hb10
    have hb10 := of_decide_eq_false hb10
    refine e_step (pc' := 14) hK rfl rfl rfl ?_
    refine e_goto (t := 34) hK rfl (by decide) ?_
    refine e_cQV2 (z := 110) hK rfl rfl (by first | (simp (disch := omega) only [mH_t64, mH_r1, mH_r3, mH_r4, mH_r5, mH_r6, mH_r8, mH_r9, mH_r10, mH_r11, mH_r12, mH_r14, mH_i0, mH_i2, mH_i7, mH_i13, mH_i15, mH_t71, mH_t, mH_lr, mH_l65, mH_l69, mH_l70, mH_l71, mH_l72, mH_l73, mH_l74, mH_l75, mH_c]; rfl) | (show _ = 2; assumption) | (show _ = 1; assumption) | (show _ = 0; assumption) | (show _ = 3; assumption) | (show _ = 4; assumption)) rfl (Nat.le_of_ble_eq_true rfl) (Nat.le_of_ble_eq_true rfl) (m_refP 1 (by omega)) ?_
    rintro _ _ _ ⟨rfl, rfl, rfl⟩
    refine ⟨by show (0 : Nat) ≠ 4; decide, ?_⟩
    rw [if_neg (by show ¬ (0 : Nat) = 3; decide)]
    try dsimp only
    have hM1 := hM0.rf 1
    obtain ⟨v1, hv1⟩ : ∃ v1, v1 = gu v 264 (mv_up (v 264) 0 1) := ⟨_, rfl⟩
    rw [← hv1] at hM1 ⊢
    have z1 : v1 264 0 = 1 := by { rw [hv1, gu_s, up_s] }
    have eo1 : ∀ b : Int, b ≠ 264 → v1 b = v b := fun b hb => by { rw [hv1]; exact gu_n hb }
    have ef1 : ∀ k : Int, k ≠ 0 → v1 264 k = v 264 k := fun k hk => by { rw [hv1, gu_s, up_n hk] }
    have hR1 := hM1.2.1
    have ra1 := hR1.1
    have rb1 := hR1.2.1
    clear hv1
    show mv_Ev _ _ 37 _ _ _ _ _
    refine e_if (t := 42) (pc' := 40) hK rfl (by first | omega | exact bo_i _) (by decide) rfl (fun hb37 => ?_) (fun hb37 => ?_)
    · replace hb37 := cq_eq.1.mp hb37
      try simp only [bo_0, Bool.not_eq_false] at hb37
      exfalso; first | omega | exact absurd trivial (by assumption) | (first | omega | exact bo_i _)
    · replace hb37 := cq_eq.2.mp hb37
      try simp only [bo_0, Bool.not_eq_false] at hb37
      refine e_step (pc' := 41) hK rfl rfl rfl ?_
      refine e_ret hK rfl rfl rfl ?_
      have e9 : sp_piece W t q x = (1, 0, W) := by { unfold sp_piece; (repeat (first | rw [if_pos (by omega)] | rw [if_neg (by omega)])) }
      rw [e9]
      exact ⟨rfl, rfl, v1, rfl, hM1, z1⟩
end GD
