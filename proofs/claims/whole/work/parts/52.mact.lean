/-! the reference: learning all, taking anew, remembering, things, errors (written by wip/whole/m52.py) -/
section MP
variable {sc : Int × (Int → Int)} {c : mv_C} {h : mv_H} {v : mvt}
set_option maxRecDepth 10000 in
theorem m_learnAll1 (a : Int) (ha : 266 ≤ a ∧ a ≤ 268) {A0 : lg} : ∀ (m : Nat) (D : lg) (w : mvt), (gall A0 12 = gall D m ∧ gT D ≤ m ∧ gI D ∧ Rw (w a) D ∧ mo a v w) → mv_Ev sc 164 2 [(2, 264), (2, a), (0, 1)] [] c (mH h w) (fun r c' h' => r = (0, (gT (gall A0 12) : Int)) ∧ c' = c ∧ ∃ w, h' = mH h w ∧ mo a v w ∧ Rw (w a) (gall A0 12)) := by
  intro m
  induction m with
  | zero =>
    intro D w ⟨hm, hT, hI, hR, hw⟩
    have gz : gT D = 0 → glv D = -9999 := fun e => by { rw [glv_none]; rcases glt_b D with q | q; exact q; omega }
    have gb : -9999 ≤ glv D ∧ glv D ≤ 2000 := by { have q := glt_b D; have q2 := hI.2.1; unfold glv; split <;> omega }
    have hK : (mv_m 164).1 = kc_Mod_learnAllOn := rfl
    refine e_step (pc' := 3) hK rfl rfl rfl ?_
    refine e_if (t := 26) (pc' := 6) hK rfl (by omega) (by decide) rfl (fun hb3 => ?_) (fun hb3 => ?_)
    · replace hb3 := cq_eq.1.mp hb3
      exfalso; first | omega | exact absurd trivial (by assumption)
    · replace hb3 := cq_eq.2.mp hb3
      refine e_step (pc' := 7) hK rfl rfl rfl ?_
      refine e_step (pc' := 8) hK rfl rfl rfl ?_
      refine e_cQV2 (z := 161) hK rfl rfl (by first | (simp (disch := omega) only [mH_t64, mH_r1, mH_r3, mH_r4, mH_r5, mH_r6, mH_r8, mH_r9, mH_r10, mH_r11, mH_r12, mH_r14, mH_i0, mH_i2, mH_i7, mH_i13, mH_i15, mH_t71, mH_t, mH_lr, mH_l65, mH_l69, mH_l70, mH_l71, mH_l72, mH_l73, mH_l74, mH_l75, mH_c]; rfl) | (show _ = 2; assumption) | (show _ = 1; assumption) | (show _ = 0; assumption) | (show _ = 3; assumption) | (show _ = 4; assumption)) rfl (Nat.le_of_ble_eq_true rfl) (Nat.le_of_ble_eq_true rfl) (m_learnOn a ha hR hI) ?_
      rintro _ _ _ ⟨rfl, rfl, u, rfl, hu, ru⟩
      refine ⟨by show (0 : Nat) ≠ 4; decide, ?_⟩
      rw [if_neg (by show ¬ (0 : Nat) = 3; decide)]
      try dsimp only
      have hu2 := mo_t hw hu
      show mv_Ev _ _ 11 _ _ _ _ _
      refine e_step (pc' := 14) hK rfl rfl rfl ?_
      refine e_icmp (t := 21) (pc' := 17) hK rfl (by omega) (by omega) (by decide) rfl (fun hb14 => ?_) (fun hb14 => ?_)
      · replace hb14 := cq_eq.1.mp hb14
        refine e_step (pc' := 22) hK rfl rfl rfl ?_
        refine e_step (pc' := 23) hK rfl rfl rfl ?_
        try simp only [List.set_cons_zero, List.set_cons_succ]
        refine e_goto (t := 2) hK rfl (by decide) ?_
        have hz : gall A0 12 = D := by { rw [hm]; exact gall_f hb14 _ }
        rw [gle_none hb14] at ru
        have u1 := ru.2.1
        rw [hz]
        refine e_step (pc' := 3) hK rfl rfl rfl ?_
        refine e_if (t := 26) (pc' := 6) hK rfl (by omega) (by decide) rfl (fun hb3 => ?_) (fun hb3 => ?_)
        · replace hb3 := cq_eq.1.mp hb3
          refine e_step (pc' := 27) hK rfl rfl rfl ?_
          refine e_step (pc' := 28) hK rfl rfl rfl ?_
          refine e_iald (pc' := 29) hK rfl (by simp (disch := omega) only [mH_t64, mH_r1, mH_r3, mH_r4, mH_r5, mH_r6, mH_r8, mH_r9, mH_r10, mH_r11, mH_r12, mH_r14, mH_i0, mH_i2, mH_i7, mH_i13, mH_i15, mH_t71, mH_t, mH_lr, mH_l65, mH_l69, mH_l70, mH_l71, mH_l72, mH_l73, mH_l74, mH_l75, mH_c, u1]) (by omega) (by (try simp (disch := omega) only [mH_t64, mH_r1, mH_r3, mH_r4, mH_r5, mH_r6, mH_r8, mH_r9, mH_r10, mH_r11, mH_r12, mH_r14, mH_i0, mH_i2, mH_i7, mH_i13, mH_i15, mH_t71, mH_t, mH_lr, mH_l65, mH_l69, mH_l70, mH_l71, mH_l72, mH_l73, mH_l74, mH_l75, mH_c, u1]); omega) rfl ?_
          try simp (disch := omega) only [mH_t64, mH_r1, mH_r3, mH_r4, mH_r5, mH_r6, mH_r8, mH_r9, mH_r10, mH_r11, mH_r12, mH_r14, mH_i0, mH_i2, mH_i7, mH_i13, mH_i15, mH_t71, mH_t, mH_lr, mH_l65, mH_l69, mH_l70, mH_l71, mH_l72, mH_l73, mH_l74, mH_l75, mH_c, u1]
          refine e_ret hK rfl rfl rfl ?_
          exact ⟨rfl, rfl, u, rfl, hu2, ru⟩
        · replace hb3 := cq_eq.2.mp hb3
          exfalso; first | omega | exact absurd trivial (by assumption)
      · replace hb14 := cq_eq.2.mp hb14
        exfalso; first | omega | exact absurd trivial (by assumption)
  | succ m ih =>
    intro D w ⟨hm, hT, hI, hR, hw⟩
    have gz : gT D = 0 → glv D = -9999 := fun e => by { rw [glv_none]; rcases glt_b D with q | q; exact q; omega }
    have gb : -9999 ≤ glv D ∧ glv D ≤ 2000 := by { have q := glt_b D; have q2 := hI.2.1; unfold glv; split <;> omega }
    have hK : (mv_m 164).1 = kc_Mod_learnAllOn := rfl
    refine e_step (pc' := 3) hK rfl rfl rfl ?_
    refine e_if (t := 26) (pc' := 6) hK rfl (by omega) (by decide) rfl (fun hb3 => ?_) (fun hb3 => ?_)
    · replace hb3 := cq_eq.1.mp hb3
      exfalso; first | omega | exact absurd trivial (by assumption)
    · replace hb3 := cq_eq.2.mp hb3
      refine e_step (pc' := 7) hK rfl rfl rfl ?_
      refine e_step (pc' := 8) hK rfl rfl rfl ?_
      refine e_cQV2 (z := 161) hK rfl rfl (by first | (simp (disch := omega) only [mH_t64, mH_r1, mH_r3, mH_r4, mH_r5, mH_r6, mH_r8, mH_r9, mH_r10, mH_r11, mH_r12, mH_r14, mH_i0, mH_i2, mH_i7, mH_i13, mH_i15, mH_t71, mH_t, mH_lr, mH_l65, mH_l69, mH_l70, mH_l71, mH_l72, mH_l73, mH_l74, mH_l75, mH_c]; rfl) | (show _ = 2; assumption) | (show _ = 1; assumption) | (show _ = 0; assumption) | (show _ = 3; assumption) | (show _ = 4; assumption)) rfl (Nat.le_of_ble_eq_true rfl) (Nat.le_of_ble_eq_true rfl) (m_learnOn a ha hR hI) ?_
      rintro _ _ _ ⟨rfl, rfl, u, rfl, hu, ru⟩
      refine ⟨by show (0 : Nat) ≠ 4; decide, ?_⟩
      rw [if_neg (by show ¬ (0 : Nat) = 3; decide)]
      try dsimp only
      have hu2 := mo_t hw hu
      show mv_Ev _ _ 11 _ _ _ _ _
      refine e_step (pc' := 14) hK rfl rfl rfl ?_
      refine e_icmp (t := 21) (pc' := 17) hK rfl (by omega) (by omega) (by decide) rfl (fun hb14 => ?_) (fun hb14 => ?_)
      · replace hb14 := cq_eq.1.mp hb14
        refine e_step (pc' := 22) hK rfl rfl rfl ?_
        refine e_step (pc' := 23) hK rfl rfl rfl ?_
        try simp only [List.set_cons_zero, List.set_cons_succ]
        refine e_goto (t := 2) hK rfl (by decide) ?_
        have hz : gall A0 12 = D := by { rw [hm]; exact gall_f hb14 _ }
        rw [gle_none hb14] at ru
        have u1 := ru.2.1
        rw [hz]
        refine e_step (pc' := 3) hK rfl rfl rfl ?_
        refine e_if (t := 26) (pc' := 6) hK rfl (by omega) (by decide) rfl (fun hb3 => ?_) (fun hb3 => ?_)
        · replace hb3 := cq_eq.1.mp hb3
          refine e_step (pc' := 27) hK rfl rfl rfl ?_
          refine e_step (pc' := 28) hK rfl rfl rfl ?_
          refine e_iald (pc' := 29) hK rfl (by simp (disch := omega) only [mH_t64, mH_r1, mH_r3, mH_r4, mH_r5, mH_r6, mH_r8, mH_r9, mH_r10, mH_r11, mH_r12, mH_r14, mH_i0, mH_i2, mH_i7, mH_i13, mH_i15, mH_t71, mH_t, mH_lr, mH_l65, mH_l69, mH_l70, mH_l71, mH_l72, mH_l73, mH_l74, mH_l75, mH_c, u1]) (by omega) (by (try simp (disch := omega) only [mH_t64, mH_r1, mH_r3, mH_r4, mH_r5, mH_r6, mH_r8, mH_r9, mH_r10, mH_r11, mH_r12, mH_r14, mH_i0, mH_i2, mH_i7, mH_i13, mH_i15, mH_t71, mH_t, mH_lr, mH_l65, mH_l69, mH_l70, mH_l71, mH_l72, mH_l73, mH_l74, mH_l75, mH_c, u1]); omega) rfl ?_
          try simp (disch := omega) only [mH_t64, mH_r1, mH_r3, mH_r4, mH_r5, mH_r6, mH_r8, mH_r9, mH_r10, mH_r11, mH_r12, mH_r14, mH_i0, mH_i2, mH_i7, mH_i13, mH_i15, mH_t71, mH_t, mH_lr, mH_l65, mH_l69, mH_l70, mH_l71, mH_l72, mH_l73, mH_l74, mH_l75, mH_c, u1]
          refine e_ret hK rfl rfl rfl ?_
          exact ⟨rfl, rfl, u, rfl, hu2, ru⟩
        · replace hb3 := cq_eq.2.mp hb3
          exfalso; first | omega | exact absurd trivial (by assumption)
      · replace hb14 := cq_eq.2.mp hb14
        refine e_step (pc' := 18) hK rfl rfl rfl ?_
        refine e_goto (t := 22) hK rfl (by decide) ?_
        refine e_step (pc' := 23) hK rfl rfl rfl ?_
        try simp only [List.set_cons_zero, List.set_cons_succ]
        refine e_goto (t := 2) hK rfl (by decide) ?_
        obtain ⟨t1, t2, -⟩ := gle_T hb14
        exact ih (gle D) u ⟨by rw [hm]; exact gall_s hb14 m, by omega, gI_gle hI, ru, hu2⟩
set_option maxRecDepth 10000 in
theorem m_learnAll (a : Int) (ha : 266 ≤ a ∧ a ≤ 268) {A : lg} (hR : Rw (v a) A) (hI : gI A) (hT : gT A ≤ 12) : mv_Cl sc q_Mod_learnAllOn [(2, 264), (2, a)] c (mH h v) (fun r c' h' => r = (0, (gT (gall A 12) : Int)) ∧ c' = c ∧ ∃ w, h' = mH h w ∧ mo a v w ∧ Rw (w a) (gall A 12)) := by
  show mv_Ev sc 164 0 [(2, 264), (2, a), (5, 0)] [] c (mH h v) _
  have hK : (mv_m 164).1 = kc_Mod_learnAllOn := rfl
  refine e_step (pc' := 1) hK rfl rfl rfl ?_
  refine e_step (pc' := 2) hK rfl rfl rfl ?_
  try simp only [List.set_cons_zero, List.set_cons_succ]
  exact m_learnAll1 a ha 12 A v ⟨rfl, hT, hI, hR, mo_r a v⟩
set_option maxRecDepth 10000 in
theorem m_anewC (a : Int) (ha : 266 ≤ a ∧ a ≤ 267) {A : lg} (hR : Rw (v a) A) (hI : gI A) (hn : gn A ≤ 24) (i : Nat) (hi2 : (i : Int) < gn A) {D : lg} (hD : gI D) (hDn : gn D = i) {u : mvt} (hu : mo 268 v u) (hRD : Rw (u 268) D) (K : ∀ (w : mvt), mo 268 v w → Rw (w 268) D → Rl (w 268) i (gL A (i : Int)) → mv_Ev sc 167 56 [(2, 264), (2, a), (0, (i : Int)), (0, 42)] [] c (mH h w) (fun r c' h' => r = (0, mv_bo (gtk A (gn A)).1) ∧ c' = c ∧ ∃ w, h' = mH h w ∧ mo 268 v w ∧ ((gtk A (gn A)).1 = true → Rw (w 268) (gtk A (gn A)).2))) : ∀ (m : Nat) (k : Nat) (w : mvt), (k + m = 42 ∧ mq 268 u w ∧ (∀ q : Int, 0 ≤ q → q < k → w 268 (2 + 42 * (i : Int) + q) = v a (2 + 42 * (i : Int) + q)) ∧ ∀ q : Int, (q < 2 + 42 * (i : Int) ∨ 2 + 42 * (i : Int) + 42 ≤ q) → w 268 q = u 268 q) → mv_Ev sc 167 25 [(2, 264), (2, a), (0, (i : Int)), (0, (k : Int))] [] c (mH h w) (fun r c' h' => r = (0, mv_bo (gtk A (gn A)).1) ∧ c' = c ∧ ∃ w, h' = mH h w ∧ mo 268 v w ∧ ((gtk A (gn A)).1 = true → Rw (w 268) (gtk A (gn A)).2)) := by
  intro m
  induction m with
  | zero =>
    intro k w ⟨hk, hw, g1, g2⟩
    have ewa : w a = v a := (hw a (by omega)).trans (hu a (by omega) (by omega) (by omega) (by omega))
    have b1 := hI.1
    have hK : (mv_m 167).1 = kc_Mod_anew := rfl
    refine e_step (pc' := 26) hK rfl rfl rfl ?_
    refine e_step (pc' := 28) hK rfl rfl rfl ?_
    refine e_icmp (t := 56) (pc' := 31) hK rfl (by omega) (by omega) (by decide) rfl (fun hb28 => ?_) (fun hb28 => ?_)
    · replace hb28 := cq_ge.1.mp hb28
      rw [show (k : Int) = 42 from by omega]
      exact K w (mo_t hu (mq_o hw)) (Rw_same hRD hD (fun q hq => g2 q (by rw [hDn] at hq; exact hq)) (by omega)) (Rl_mv (gLok hI (show (0 : Int) ≤ i by omega) hi2) (hR.2.2.1 i (by omega) hi2).1 (fun q q0 q1 => g1 q q0 (by omega)))
    · replace hb28 := cq_ge.2.mp hb28
      exfalso; first | omega | exact absurd trivial (by assumption)
  | succ m ih =>
    intro k w ⟨hk, hw, g1, g2⟩
    have ewa : w a = v a := (hw a (by omega)).trans (hu a (by omega) (by omega) (by omega) (by omega))
    have b1 := hI.1
    have hK : (mv_m 167).1 = kc_Mod_anew := rfl
    refine e_step (pc' := 26) hK rfl rfl rfl ?_
    refine e_step (pc' := 28) hK rfl rfl rfl ?_
    refine e_icmp (t := 56) (pc' := 31) hK rfl (by omega) (by omega) (by decide) rfl (fun hb28 => ?_) (fun hb28 => ?_)
    · replace hb28 := cq_ge.1.mp hb28
      exfalso; first | omega | exact absurd trivial (by assumption)
    · replace hb28 := cq_ge.2.mp hb28
      refine e_step (pc' := 32) hK rfl rfl rfl ?_
      refine e_getR (ci := 4) (k := 5) (pc' := 35) hK rfl (by simp (disch := omega) only [mH_t64, mH_r1, mH_r3, mH_r4, mH_r5, mH_r6, mH_r8, mH_r9, mH_r10, mH_r11, mH_r12, mH_r14, mH_i0, mH_i2, mH_i7, mH_i13, mH_i15, mH_t71, mH_t, mH_lr, mH_l65, mH_l69, mH_l70, mH_l71, mH_l72, mH_l73, mH_l74, mH_l75, mH_c, ewa]) rfl rfl (by decide) (by decide) (by (try simp (disch := omega) only [mH_t64, mH_r1, mH_r3, mH_r4, mH_r5, mH_r6, mH_r8, mH_r9, mH_r10, mH_r11, mH_r12, mH_r14, mH_i0, mH_i2, mH_i7, mH_i13, mH_i15, mH_t71, mH_t, mH_lr, mH_l65, mH_l69, mH_l70, mH_l71, mH_l72, mH_l73, mH_l74, mH_l75, mH_c, ewa]); omega) rfl ?_
      try simp (disch := omega) only [mH_t64, mH_r1, mH_r3, mH_r4, mH_r5, mH_r6, mH_r8, mH_r9, mH_r10, mH_r11, mH_r12, mH_r14, mH_i0, mH_i2, mH_i7, mH_i13, mH_i15, mH_t71, mH_t, mH_lr, mH_l65, mH_l69, mH_l70, mH_l71, mH_l72, mH_l73, mH_l74, mH_l75, mH_c, ewa]
      refine e_step (pc' := 36) hK rfl rfl rfl ?_
      refine e_cRS1 (z := 116) (pc' := 39) hK rfl rfl rfl (Nat.le_of_ble_eq_true rfl) (Nat.le_of_ble_eq_true rfl) (m_lineAt (i : Int)) (by decide) rfl ?_
      try simp (disch := omega) only [mH_t64, mH_r1, mH_r3, mH_r4, mH_r5, mH_r6, mH_r8, mH_r9, mH_r10, mH_r11, mH_r12, mH_r14, mH_i0, mH_i2, mH_i7, mH_i13, mH_i15, mH_t71, mH_t, mH_lr, mH_l65, mH_l69, mH_l70, mH_l71, mH_l72, mH_l73, mH_l74, mH_l75, mH_c, ewa]
      refine e_step (pc' := 40) hK rfl rfl rfl ?_
      refine e_step (pc' := 41) hK rfl rfl rfl ?_
      refine e_step (pc' := 42) hK rfl rfl rfl ?_
      refine e_step (pc' := 43) hK rfl rfl rfl ?_
      refine e_cRS1 (z := 116) (pc' := 46) hK rfl rfl rfl (Nat.le_of_ble_eq_true rfl) (Nat.le_of_ble_eq_true rfl) (m_lineAt (i : Int)) (by decide) rfl ?_
      try simp (disch := omega) only [mH_t64, mH_r1, mH_r3, mH_r4, mH_r5, mH_r6, mH_r8, mH_r9, mH_r10, mH_r11, mH_r12, mH_r14, mH_i0, mH_i2, mH_i7, mH_i13, mH_i15, mH_t71, mH_t, mH_lr, mH_l65, mH_l69, mH_l70, mH_l71, mH_l72, mH_l73, mH_l74, mH_l75, mH_c, ewa]
      refine e_step (pc' := 47) hK rfl rfl rfl ?_
      refine e_step (pc' := 48) hK rfl rfl rfl ?_
      refine e_iald (pc' := 49) hK rfl (by simp (disch := omega) only [mH_t64, mH_r1, mH_r3, mH_r4, mH_r5, mH_r6, mH_r8, mH_r9, mH_r10, mH_r11, mH_r12, mH_r14, mH_i0, mH_i2, mH_i7, mH_i13, mH_i15, mH_t71, mH_t, mH_lr, mH_l65, mH_l69, mH_l70, mH_l71, mH_l72, mH_l73, mH_l74, mH_l75, mH_c, ewa]) (by omega) (by (try simp (disch := omega) only [mH_t64, mH_r1, mH_r3, mH_r4, mH_r5, mH_r6, mH_r8, mH_r9, mH_r10, mH_r11, mH_r12, mH_r14, mH_i0, mH_i2, mH_i7, mH_i13, mH_i15, mH_t71, mH_t, mH_lr, mH_l65, mH_l69, mH_l70, mH_l71, mH_l72, mH_l73, mH_l74, mH_l75, mH_c, ewa]); omega) rfl ?_
      try simp (disch := omega) only [mH_t64, mH_r1, mH_r3, mH_r4, mH_r5, mH_r6, mH_r8, mH_r9, mH_r10, mH_r11, mH_r12, mH_r14, mH_i0, mH_i2, mH_i7, mH_i13, mH_i15, mH_t71, mH_t, mH_lr, mH_l65, mH_l69, mH_l70, mH_l71, mH_l72, mH_l73, mH_l74, mH_l75, mH_c, ewa]
      refine e_iast (pc' := 50) hK rfl (by simp (disch := omega) only [mH_t64, mH_r1, mH_r3, mH_r4, mH_r5, mH_r6, mH_r8, mH_r9, mH_r10, mH_r11, mH_r12, mH_r14, mH_i0, mH_i2, mH_i7, mH_i13, mH_i15, mH_t71, mH_t, mH_lr, mH_l65, mH_l69, mH_l70, mH_l71, mH_l72, mH_l73, mH_l74, mH_l75, mH_c, ewa]) (by omega) (by (try simp (disch := omega) only [mH_t64, mH_r1, mH_r3, mH_r4, mH_r5, mH_r6, mH_r8, mH_r9, mH_r10, mH_r11, mH_r12, mH_r14, mH_i0, mH_i2, mH_i7, mH_i13, mH_i15, mH_t71, mH_t, mH_lr, mH_l65, mH_l69, mH_l70, mH_l71, mH_l72, mH_l73, mH_l74, mH_l75, mH_c, ewa]); omega) rfl ?_
      simp (disch := omega) only [mW_0, mW_2, mW_7, mW_13, mW_15, mW_a, gu_s]
      refine e_step (pc' := 53) hK rfl rfl rfl ?_
      try simp only [List.set_cons_zero, List.set_cons_succ]
      refine e_goto (t := 25) hK rfl (by decide) ?_
      refine ih (k + 1) _ ⟨by omega, fun b n1 => by rw [gu_n n1]; exact hw b n1, fun q p0 p1 => ?_, fun q n2 => ?_⟩
      · rw [gu_s]
        by_cases e : q = k
        · rw [e, up_s]
        · rw [up_n (by omega)]; exact g1 q p0 (by omega)
      · rw [gu_s, up_n (by omega)]; exact g2 q n2
set_option maxRecDepth 10000 in
theorem m_anewO (a : Int) (ha : 266 ≤ a ∧ a ≤ 267) {A : lg} (hR : Rw (v a) A) (hI : gI A) (hn : gn A ≤ 24) : ∀ (m : Nat) (i : Nat) (w : mvt) (a3 : mv_V), (i + m = gn A ∧ (gtk A i).1 = true ∧ Rw (w 268) (gtk A i).2 ∧ mo 268 v w) → mv_Ev sc 167 16 [(2, 264), (2, a), (0, (i : Int)), a3] [] c (mH h w) (fun r c' h' => r = (0, mv_bo (gtk A (gn A)).1) ∧ c' = c ∧ ∃ w, h' = mH h w ∧ mo 268 v w ∧ ((gtk A (gn A)).1 = true → Rw (w 268) (gtk A (gn A)).2)) := by
  intro m
  induction m with
  | zero =>
    intro i w a3 ⟨hi, hg, hRw, hw⟩
    have ewa : w a = v a := hw a (by omega) (by omega) (by omega) (by omega)
    have b1 := hI.1
    have r0 := hR.1
    obtain ⟨t1, t2, t3, t4⟩ := gtk_I (A := A) (fun k => by { by_cases hk : 0 ≤ k ∧ k < gn A; rw [gl_L hk.1 hk.2]; exact gLok hI hk.1 hk.2; unfold gl; rw [if_neg hk]; exact xok0 }) i (by omega)
    have hDn := t4 hg
    have hK : (mv_m 167).1 = kc_Mod_anew := rfl
    refine e_step (pc' := 17) hK rfl rfl rfl ?_
    refine e_step (pc' := 18) hK rfl rfl rfl ?_
    refine e_step (pc' := 19) hK rfl rfl rfl ?_
    refine e_iald (pc' := 20) hK rfl (by simp (disch := omega) only [mH_t64, mH_r1, mH_r3, mH_r4, mH_r5, mH_r6, mH_r8, mH_r9, mH_r10, mH_r11, mH_r12, mH_r14, mH_i0, mH_i2, mH_i7, mH_i13, mH_i15, mH_t71, mH_t, mH_lr, mH_l65, mH_l69, mH_l70, mH_l71, mH_l72, mH_l73, mH_l74, mH_l75, mH_c, ewa, r0]) (by omega) (by (try simp (disch := omega) only [mH_t64, mH_r1, mH_r3, mH_r4, mH_r5, mH_r6, mH_r8, mH_r9, mH_r10, mH_r11, mH_r12, mH_r14, mH_i0, mH_i2, mH_i7, mH_i13, mH_i15, mH_t71, mH_t, mH_lr, mH_l65, mH_l69, mH_l70, mH_l71, mH_l72, mH_l73, mH_l74, mH_l75, mH_c, ewa, r0]); omega) rfl ?_
    try simp (disch := omega) only [mH_t64, mH_r1, mH_r3, mH_r4, mH_r5, mH_r6, mH_r8, mH_r9, mH_r10, mH_r11, mH_r12, mH_r14, mH_i0, mH_i2, mH_i7, mH_i13, mH_i15, mH_t71, mH_t, mH_lr, mH_l65, mH_l69, mH_l70, mH_l71, mH_l72, mH_l73, mH_l74, mH_l75, mH_c, ewa, r0]
    refine e_icmp (t := 84) (pc' := 23) hK rfl (by omega) (by omega) (by decide) rfl (fun hb20 => ?_) (fun hb20 => ?_)
    · replace hb20 := cq_ge.1.mp hb20
      refine e_step (pc' := 85) hK rfl rfl rfl ?_
      refine e_ret hK rfl rfl (by first | rfl | (simp only [mv_ret]; rw [if_pos]; exact Or.inr ⟨rfl, by omega⟩) | (simp only [mv_ret]; rw [if_pos]; exact Or.inr ⟨rfl, by unfold mv_bo; split <;> first | exact Or.inl rfl | exact Or.inr rfl⟩)) ?_
      rw [show gn A = i from by omega]
      exact ⟨by rw [hg]; rfl, rfl, w, rfl, hw, fun _ => hRw⟩
    · replace hb20 := cq_ge.2.mp hb20
      exfalso; first | omega | exact absurd trivial (by assumption)
  | succ m ih =>
    intro i w a3 ⟨hi, hg, hRw, hw⟩
    have ewa : w a = v a := hw a (by omega) (by omega) (by omega) (by omega)
    have b1 := hI.1
    have r0 := hR.1
    obtain ⟨t1, t2, t3, t4⟩ := gtk_I (A := A) (fun k => by { by_cases hk : 0 ≤ k ∧ k < gn A; rw [gl_L hk.1 hk.2]; exact gLok hI hk.1 hk.2; unfold gl; rw [if_neg hk]; exact xok0 }) i (by omega)
    have hDn := t4 hg
    have hK : (mv_m 167).1 = kc_Mod_anew := rfl
    refine e_step (pc' := 17) hK rfl rfl rfl ?_
    refine e_step (pc' := 18) hK rfl rfl rfl ?_
    refine e_step (pc' := 19) hK rfl rfl rfl ?_
    refine e_iald (pc' := 20) hK rfl (by simp (disch := omega) only [mH_t64, mH_r1, mH_r3, mH_r4, mH_r5, mH_r6, mH_r8, mH_r9, mH_r10, mH_r11, mH_r12, mH_r14, mH_i0, mH_i2, mH_i7, mH_i13, mH_i15, mH_t71, mH_t, mH_lr, mH_l65, mH_l69, mH_l70, mH_l71, mH_l72, mH_l73, mH_l74, mH_l75, mH_c, ewa, r0]) (by omega) (by (try simp (disch := omega) only [mH_t64, mH_r1, mH_r3, mH_r4, mH_r5, mH_r6, mH_r8, mH_r9, mH_r10, mH_r11, mH_r12, mH_r14, mH_i0, mH_i2, mH_i7, mH_i13, mH_i15, mH_t71, mH_t, mH_lr, mH_l65, mH_l69, mH_l70, mH_l71, mH_l72, mH_l73, mH_l74, mH_l75, mH_c, ewa, r0]); omega) rfl ?_
    try simp (disch := omega) only [mH_t64, mH_r1, mH_r3, mH_r4, mH_r5, mH_r6, mH_r8, mH_r9, mH_r10, mH_r11, mH_r12, mH_r14, mH_i0, mH_i2, mH_i7, mH_i13, mH_i15, mH_t71, mH_t, mH_lr, mH_l65, mH_l69, mH_l70, mH_l71, mH_l72, mH_l73, mH_l74, mH_l75, mH_c, ewa, r0]
    refine e_icmp (t := 84) (pc' := 23) hK rfl (by omega) (by omega) (by decide) rfl (fun hb20 => ?_) (fun hb20 => ?_)
    · replace hb20 := cq_ge.1.mp hb20
      exfalso; first | omega | exact absurd trivial (by assumption)
    · replace hb20 := cq_ge.2.mp hb20
      refine e_step (pc' := 24) hK rfl rfl rfl ?_
      refine e_step (pc' := 25) hK rfl rfl rfl ?_
      try simp only [List.set_cons_zero, List.set_cons_succ]
      have hi2 : (i : Int) < gn A := by omega
      have ew : w a = v a := hw a (by omega) (by omega) (by omega) (by omega)
      refine m_anewC a ha hR hI hn i hi2 t1 hDn hw hRw (fun u hu hRu hlu => ?_) 42 0 w ⟨by omega, mq_r 268 w, fun q p0 p1 => by omega, fun q _ => rfl⟩
      refine e_step (pc' := 57) hK rfl rfl rfl ?_
      refine e_step (pc' := 58) hK rfl rfl rfl ?_
      refine e_getR (ci := 4) (k := 5) (pc' := 61) hK rfl (by simp (disch := omega) only [mH_t64, mH_r1, mH_r3, mH_r4, mH_r5, mH_r6, mH_r8, mH_r9, mH_r10, mH_r11, mH_r12, mH_r14, mH_i0, mH_i2, mH_i7, mH_i13, mH_i15, mH_t71, mH_t, mH_lr, mH_l65, mH_l69, mH_l70, mH_l71, mH_l72, mH_l73, mH_l74, mH_l75, mH_c]) rfl rfl (by decide) (by decide) (by (try simp (disch := omega) only [mH_t64, mH_r1, mH_r3, mH_r4, mH_r5, mH_r6, mH_r8, mH_r9, mH_r10, mH_r11, mH_r12, mH_r14, mH_i0, mH_i2, mH_i7, mH_i13, mH_i15, mH_t71, mH_t, mH_lr, mH_l65, mH_l69, mH_l70, mH_l71, mH_l72, mH_l73, mH_l74, mH_l75, mH_c]); first | omega | exact bo_i _) rfl ?_
      try simp (disch := omega) only [mH_t64, mH_r1, mH_r3, mH_r4, mH_r5, mH_r6, mH_r8, mH_r9, mH_r10, mH_r11, mH_r12, mH_r14, mH_i0, mH_i2, mH_i7, mH_i13, mH_i15, mH_t71, mH_t, mH_lr, mH_l65, mH_l69, mH_l70, mH_l71, mH_l72, mH_l73, mH_l74, mH_l75, mH_c]
      refine e_cQV2 (z := 147) hK rfl rfl (by first | (simp (disch := omega) only [mH_t64, mH_r1, mH_r3, mH_r4, mH_r5, mH_r6, mH_r8, mH_r9, mH_r10, mH_r11, mH_r12, mH_r14, mH_i0, mH_i2, mH_i7, mH_i13, mH_i15, mH_t71, mH_t, mH_lr, mH_l65, mH_l69, mH_l70, mH_l71, mH_l72, mH_l73, mH_l74, mH_l75, mH_c]; rfl) | (show _ = 2; assumption) | (show _ = 1; assumption) | (show _ = 0; assumption) | (show _ = 3; assumption) | (show _ = 4; assumption)) rfl (Nat.le_of_ble_eq_true rfl) (Nat.le_of_ble_eq_true rfl) (m_canSettle 268 (by omega) hRu t1 (x := gL A (i : Int)) (gLok hI (by omega) hi2) (by rw [hDn]; exact hlu) (by omega)) ?_
      rintro _ _ _ ⟨rfl, rfl, s, rfl, hs⟩
      refine ⟨by show (0 : Nat) ≠ 4; decide, ?_⟩
      rw [if_neg (by show ¬ (0 : Nat) = 3; decide)]
      try dsimp only
      have es : s 268 = u 268 := hs 268 (by omega) (by omega) (by omega)
      have egl := gl_L (A := A) (show (0 : Int) ≤ i by omega) hi2
      have eg : gtk A (i + 1) = cond (gtk A i).1 (cond (decide (gtf (gtk A i).2 (gl A i) = -9999)) (false, (gtk A i).2) (true, gput (gtk A i).2 (gl A i) (gtf (gtk A i).2 (gl A i)))) (gtk A i) := rfl
      rw [hg, cond_true, egl] at eg
      have gc := gtf_c (A := (gtk A i).2) (x := gL A (i : Int))
      show mv_Ev _ _ 64 _ _ _ _ _
      refine e_if (t := 69) (pc' := 67) hK rfl (by first | omega | exact bo_i _) (by decide) rfl (fun hb64 => ?_) (fun hb64 => ?_)
      · replace hb64 := cq_ne.1.mp hb64
        try simp only [bo_0, Bool.not_eq_false] at hb64
        refine e_step (pc' := 70) hK rfl rfl rfl ?_
        refine e_step (pc' := 71) hK rfl rfl rfl ?_
        refine e_getR (ci := 4) (k := 5) (pc' := 74) hK rfl (by simp (disch := omega) only [mH_t64, mH_r1, mH_r3, mH_r4, mH_r5, mH_r6, mH_r8, mH_r9, mH_r10, mH_r11, mH_r12, mH_r14, mH_i0, mH_i2, mH_i7, mH_i13, mH_i15, mH_t71, mH_t, mH_lr, mH_l65, mH_l69, mH_l70, mH_l71, mH_l72, mH_l73, mH_l74, mH_l75, mH_c]) rfl rfl (by decide) (by decide) (by (try simp (disch := omega) only [mH_t64, mH_r1, mH_r3, mH_r4, mH_r5, mH_r6, mH_r8, mH_r9, mH_r10, mH_r11, mH_r12, mH_r14, mH_i0, mH_i2, mH_i7, mH_i13, mH_i15, mH_t71, mH_t, mH_lr, mH_l65, mH_l69, mH_l70, mH_l71, mH_l72, mH_l73, mH_l74, mH_l75, mH_c]); first | omega | exact bo_i _) rfl ?_
        try simp (disch := omega) only [mH_t64, mH_r1, mH_r3, mH_r4, mH_r5, mH_r6, mH_r8, mH_r9, mH_r10, mH_r11, mH_r12, mH_r14, mH_i0, mH_i2, mH_i7, mH_i13, mH_i15, mH_t71, mH_t, mH_lr, mH_l65, mH_l69, mH_l70, mH_l71, mH_l72, mH_l73, mH_l74, mH_l75, mH_c]
        refine e_cQV2 (z := 152) hK rfl rfl (by first | (simp (disch := omega) only [mH_t64, mH_r1, mH_r3, mH_r4, mH_r5, mH_r6, mH_r8, mH_r9, mH_r10, mH_r11, mH_r12, mH_r14, mH_i0, mH_i2, mH_i7, mH_i13, mH_i15, mH_t71, mH_t, mH_lr, mH_l65, mH_l69, mH_l70, mH_l71, mH_l72, mH_l73, mH_l74, mH_l75, mH_c]; rfl) | (show _ = 2; assumption) | (show _ = 1; assumption) | (show _ = 0; assumption) | (show _ = 3; assumption) | (show _ = 4; assumption)) rfl (Nat.le_of_ble_eq_true rfl) (Nat.le_of_ble_eq_true rfl) (m_settle 268 (by omega) (by rw [es]; exact hRu) t1 (x := gL A (i : Int)) (gLok hI (by omega) hi2) (by rw [es, hDn]; exact hlu) (by omega) t2) ?_
        rintro _ _ _ ⟨rfl, rfl, y, rfl, hy, ry⟩
        refine ⟨by show (0 : Nat) ≠ 4; decide, ?_⟩
        rw [if_neg (by show ¬ (0 : Nat) = 3; decide)]
        try dsimp only
        show mv_Ev _ _ 77 _ _ _ _ _
        refine e_step (pc' := 78) hK rfl rfl rfl ?_
        refine e_step (pc' := 81) hK rfl rfl rfl ?_
        try simp only [List.set_cons_zero, List.set_cons_succ]
        refine e_goto (t := 16) hK rfl (by decide) ?_
        have hb64 := of_decide_eq_true hb64
        have e9 : gtf (gtk A i).2 (gL A (i : Int)) ≠ -9999 := fun e => gc.1 e hb64
        rw [decide_eq_false e9, cond_false, gput_w e9 t2] at eg
        exact ih (i + 1) y _ ⟨by omega, by rw [eg], by rw [eg]; exact ry, mo_t (mo_t hu (mo_m hs)) hy⟩
      · replace hb64 := cq_ne.2.mp hb64
        try simp only [bo_0, Bool.not_eq_false] at hb64
        refine e_step (pc' := 68) hK rfl rfl rfl ?_
        refine e_ret hK rfl rfl (by first | rfl | (simp only [mv_ret]; rw [if_pos]; exact Or.inr ⟨rfl, by omega⟩) | (simp only [mv_ret]; rw [if_pos]; exact Or.inr ⟨rfl, by unfold mv_bo; split <;> first | exact Or.inl rfl | exact Or.inr rfl⟩)) ?_
        have hb64 := of_decide_eq_false hb64
        have e9 : gtf (gtk A i).2 (gL A (i : Int)) = -9999 := by { refine Decidable.byContradiction (fun e => hb64 (gc.2 e).1) }
        rw [decide_eq_true e9, cond_true] at eg
        have e2 := gtk_stop (B := A) (k := i + 1) (by rw [eg]) (gn A) (by omega)
        exact ⟨by rw [e2, eg]; rfl, rfl, s, rfl, mo_t hu (mo_m hs), fun q => by rw [e2, eg] at q; cases q⟩
set_option maxRecDepth 10000 in
theorem m_anew (a : Int) (ha : 266 ≤ a ∧ a ≤ 267) {A : lg} (hR : Rw (v a) A) (hI : gI A) (hn : gn A ≤ 24) : mv_Cl sc q_Mod_anew [(2, 264), (2, a)] c (mH h v) (fun r c' h' => r = (0, mv_bo (gtk A (gn A)).1) ∧ c' = c ∧ ∃ w, h' = mH h w ∧ mo 268 v w ∧ ((gtk A (gn A)).1 = true → Rw (w 268) (gtk A (gn A)).2)) := by
  show mv_Ev sc 167 0 [(2, 264), (2, a), (5, 0), (5, 0)] [] c (mH h v) _
  have hK : (mv_m 167).1 = kc_Mod_anew := rfl
  refine e_step (pc' := 1) hK rfl rfl rfl ?_
  refine e_getR (ci := 4) (k := 5) (pc' := 4) hK rfl (by simp (disch := omega) only [mH_t64, mH_r1, mH_r3, mH_r4, mH_r5, mH_r6, mH_r8, mH_r9, mH_r10, mH_r11, mH_r12, mH_r14, mH_i0, mH_i2, mH_i7, mH_i13, mH_i15, mH_t71, mH_t, mH_lr, mH_l65, mH_l69, mH_l70, mH_l71, mH_l72, mH_l73, mH_l74, mH_l75, mH_c]) rfl rfl (by decide) (by decide) (by (try simp (disch := omega) only [mH_t64, mH_r1, mH_r3, mH_r4, mH_r5, mH_r6, mH_r8, mH_r9, mH_r10, mH_r11, mH_r12, mH_r14, mH_i0, mH_i2, mH_i7, mH_i13, mH_i15, mH_t71, mH_t, mH_lr, mH_l65, mH_l69, mH_l70, mH_l71, mH_l72, mH_l73, mH_l74, mH_l75, mH_c]); omega) rfl ?_
  try simp (disch := omega) only [mH_t64, mH_r1, mH_r3, mH_r4, mH_r5, mH_r6, mH_r8, mH_r9, mH_r10, mH_r11, mH_r12, mH_r14, mH_i0, mH_i2, mH_i7, mH_i13, mH_i15, mH_t71, mH_t, mH_lr, mH_l65, mH_l69, mH_l70, mH_l71, mH_l72, mH_l73, mH_l74, mH_l75, mH_c]
  refine e_step (pc' := 5) hK rfl rfl rfl ?_
  refine e_step (pc' := 6) hK rfl rfl rfl ?_
  refine e_iast (pc' := 7) hK rfl (by simp (disch := omega) only [mH_t64, mH_r1, mH_r3, mH_r4, mH_r5, mH_r6, mH_r8, mH_r9, mH_r10, mH_r11, mH_r12, mH_r14, mH_i0, mH_i2, mH_i7, mH_i13, mH_i15, mH_t71, mH_t, mH_lr, mH_l65, mH_l69, mH_l70, mH_l71, mH_l72, mH_l73, mH_l74, mH_l75, mH_c]) (by omega) (by (try simp (disch := omega) only [mH_t64, mH_r1, mH_r3, mH_r4, mH_r5, mH_r6, mH_r8, mH_r9, mH_r10, mH_r11, mH_r12, mH_r14, mH_i0, mH_i2, mH_i7, mH_i13, mH_i15, mH_t71, mH_t, mH_lr, mH_l65, mH_l69, mH_l70, mH_l71, mH_l72, mH_l73, mH_l74, mH_l75, mH_c]); omega) rfl ?_
  simp (disch := omega) only [mW_0, mW_2, mW_7, mW_13, mW_15, mW_a, gu_s]
  refine e_step (pc' := 8) hK rfl rfl rfl ?_
  refine e_getR (ci := 4) (k := 5) (pc' := 11) hK rfl (by simp (disch := omega) only [mH_t64, mH_r1, mH_r3, mH_r4, mH_r5, mH_r6, mH_r8, mH_r9, mH_r10, mH_r11, mH_r12, mH_r14, mH_i0, mH_i2, mH_i7, mH_i13, mH_i15, mH_t71, mH_t, mH_lr, mH_l65, mH_l69, mH_l70, mH_l71, mH_l72, mH_l73, mH_l74, mH_l75, mH_c]) rfl rfl (by decide) (by decide) (by (try simp (disch := omega) only [mH_t64, mH_r1, mH_r3, mH_r4, mH_r5, mH_r6, mH_r8, mH_r9, mH_r10, mH_r11, mH_r12, mH_r14, mH_i0, mH_i2, mH_i7, mH_i13, mH_i15, mH_t71, mH_t, mH_lr, mH_l65, mH_l69, mH_l70, mH_l71, mH_l72, mH_l73, mH_l74, mH_l75, mH_c]); omega) rfl ?_
  try simp (disch := omega) only [mH_t64, mH_r1, mH_r3, mH_r4, mH_r5, mH_r6, mH_r8, mH_r9, mH_r10, mH_r11, mH_r12, mH_r14, mH_i0, mH_i2, mH_i7, mH_i13, mH_i15, mH_t71, mH_t, mH_lr, mH_l65, mH_l69, mH_l70, mH_l71, mH_l72, mH_l73, mH_l74, mH_l75, mH_c]
  refine e_step (pc' := 12) hK rfl rfl rfl ?_
  refine e_step (pc' := 13) hK rfl rfl rfl ?_
  refine e_iast (pc' := 14) hK rfl (by simp (disch := omega) only [mH_t64, mH_r1, mH_r3, mH_r4, mH_r5, mH_r6, mH_r8, mH_r9, mH_r10, mH_r11, mH_r12, mH_r14, mH_i0, mH_i2, mH_i7, mH_i13, mH_i15, mH_t71, mH_t, mH_lr, mH_l65, mH_l69, mH_l70, mH_l71, mH_l72, mH_l73, mH_l74, mH_l75, mH_c]) (by omega) (by (try simp (disch := omega) only [mH_t64, mH_r1, mH_r3, mH_r4, mH_r5, mH_r6, mH_r8, mH_r9, mH_r10, mH_r11, mH_r12, mH_r14, mH_i0, mH_i2, mH_i7, mH_i13, mH_i15, mH_t71, mH_t, mH_lr, mH_l65, mH_l69, mH_l70, mH_l71, mH_l72, mH_l73, mH_l74, mH_l75, mH_c]); omega) rfl ?_
  simp (disch := omega) only [mW_0, mW_2, mW_7, mW_13, mW_15, mW_a, gu_s]
  refine e_step (pc' := 15) hK rfl rfl rfl ?_
  refine e_step (pc' := 16) hK rfl rfl rfl ?_
  try simp only [List.set_cons_zero, List.set_cons_succ]
  refine m_anewO a ha hR hI hn (gn A) 0 _ _ ⟨by omega, rfl, ?_, fun b n1 n2 n3 n4 => by rw [gu_n n4, gu_n n4]⟩
  refine ⟨?_, ?_, fun i i0 i1 => ?_, fun i i0 i1 => ?_⟩
  · rw [gu_s, up_n (by omega)]; try rw [gu_s]
    rw [up_s]; rfl
  · rw [gu_s, up_s]; rfl
  · have i1 : i < 0 := i1; omega
  · have i1 : i < 0 := i1; omega
set_option maxRecDepth 10000 in
theorem m_newT1 (a : Int) (ha : 266 ≤ a ∧ a ≤ 268) {A : lg} (hR : Rw (v a) A) (hI : gI A) (t i q : Int) (hi0 : 0 ≤ i) (hi1 : i < gn A) (ht : gP A i = t) (hq0 : 0 ≤ q) (hq1 : q < xn (gs A t)) : ∀ (m : Nat) (w : mvt) (j : Int) (a6 : mv_V), ((j = -9999 ∨ (0 ≤ j ∧ j < m ∧ j < i ∧ gP A j = t)) ∧ Pc w (v a) q i (gL A i) q ∧ ms v w ∧ ∀ k : Int, 0 ≤ k → j < k → k < i → k < gn A → gP A k = t → csm A (gL A i) q k = false) → mv_Ev sc 142 16 [(2, 264), (2, a), (0, t), (0, i), (0, q), (0, j), a6] [] c (mH h w) (mv_Ms h v (mv_bo (!cz A (gL A i) t q i)) c) := by
  intro m
  induction m with
  | zero =>
    intro w j a6 ⟨hj, pw, hw, hf⟩
    have b1 := hI.1
    have b2 := hI.2.1
    have r0 := hR.1
    have r1 := hR.2.1
    have hlx := gI_l hI hi0 hi1 ht
    have hlR := (hR.2.2.1 i hi0 hi1).1
    have b3 := xn_b (gSok hI hlx.1 hlx.2.1)
    have tb : 0 ≤ t ∧ t < gT A := ⟨hlx.1, hlx.2.1⟩
    have k3 := gI_k3 hI hi0 hi1 ht hq0 hq1
    have ea : w a = v a := hw a (by omega) (by omega) (by omega)
    have rk : v a (1052 + 13 * t + 1 + q) = gk A t q := (hR.2.2.2 t tb.1 tb.2).2 q hq0 (by rw [← gs_S tb.1 tb.2]; exact hq1)
    have kb := gk_i hI tb.1 tb.2 hq0 hq1
    have hK : (mv_m 142).1 = kc_Mod_isNewThing := rfl
    refine e_step (pc' := 18) hK rfl rfl rfl ?_
    refine e_step (pc' := 21) hK rfl rfl rfl ?_
    refine e_icmp (t := 106) (pc' := 24) hK rfl (by first | omega | exact bo_i _) (by first | omega | exact bo_i _) (by decide) rfl (fun hb21 => ?_) (fun hb21 => ?_)
    · replace hb21 := cq_eq.1.mp hb21
      try simp only [bo_0, Bool.not_eq_false] at hb21
      refine e_step (pc' := 107) hK rfl rfl rfl ?_
      refine e_ret hK rfl rfl (by first | rfl | (simp only [mv_ret]; rw [if_pos]; exact Or.inr ⟨rfl, by omega⟩) | (simp only [mv_ret]; rw [if_pos]; exact Or.inr ⟨rfl, by unfold mv_bo; split <;> first | exact Or.inl rfl | exact Or.inr rfl⟩)) ?_
      refine ⟨?_, rfl, w, rfl, hw⟩
      rw [cz_f (fun k k0 k1 k2 k3 => hf k k0 (by omega) k1 k2 k3)]
      rfl
    · replace hb21 := cq_eq.2.mp hb21
      try simp only [bo_0, Bool.not_eq_false] at hb21
      exfalso; first | omega | exact absurd trivial (by assumption) | (first | omega | exact bo_i _)
  | succ m ih =>
    intro w j a6 ⟨hj, pw, hw, hf⟩
    have b1 := hI.1
    have b2 := hI.2.1
    have r0 := hR.1
    have r1 := hR.2.1
    have hlx := gI_l hI hi0 hi1 ht
    have hlR := (hR.2.2.1 i hi0 hi1).1
    have b3 := xn_b (gSok hI hlx.1 hlx.2.1)
    have tb : 0 ≤ t ∧ t < gT A := ⟨hlx.1, hlx.2.1⟩
    have k3 := gI_k3 hI hi0 hi1 ht hq0 hq1
    have ea : w a = v a := hw a (by omega) (by omega) (by omega)
    have rk : v a (1052 + 13 * t + 1 + q) = gk A t q := (hR.2.2.2 t tb.1 tb.2).2 q hq0 (by rw [← gs_S tb.1 tb.2]; exact hq1)
    have kb := gk_i hI tb.1 tb.2 hq0 hq1
    have hK : (mv_m 142).1 = kc_Mod_isNewThing := rfl
    refine e_step (pc' := 18) hK rfl rfl rfl ?_
    refine e_step (pc' := 21) hK rfl rfl rfl ?_
    refine e_icmp (t := 106) (pc' := 24) hK rfl (by first | omega | exact bo_i _) (by first | omega | exact bo_i _) (by decide) rfl (fun hb21 => ?_) (fun hb21 => ?_)
    · replace hb21 := cq_eq.1.mp hb21
      try simp only [bo_0, Bool.not_eq_false] at hb21
      refine e_step (pc' := 107) hK rfl rfl rfl ?_
      refine e_ret hK rfl rfl (by first | rfl | (simp only [mv_ret]; rw [if_pos]; exact Or.inr ⟨rfl, by omega⟩) | (simp only [mv_ret]; rw [if_pos]; exact Or.inr ⟨rfl, by unfold mv_bo; split <;> first | exact Or.inl rfl | exact Or.inr rfl⟩)) ?_
      refine ⟨?_, rfl, w, rfl, hw⟩
      rw [cz_f (fun k k0 k1 k2 k3 => hf k k0 (by omega) k1 k2 k3)]
      rfl
    · replace hb21 := cq_eq.2.mp hb21
      try simp only [bo_0, Bool.not_eq_false] at hb21
      have hj := hj.resolve_left hb21
      have hljx := gI_l hI hj.1 (by omega) hj.2.2.2
      have hljR := (hR.2.2.1 _ hj.1 (show j < gn A by omega)).1
      have k3j := (gI_k3 hI hj.1 (show j < gn A by omega) hj.2.2.2 hq0 hq1).1
      refine e_step (pc' := 25) hK rfl rfl rfl ?_
      refine e_step (pc' := 26) hK rfl rfl rfl ?_
      refine e_step (pc' := 28) hK rfl rfl rfl ?_
      refine e_step (pc' := 30) hK rfl rfl rfl ?_
      refine e_cQV4 (z := 123) hK rfl rfl (by first | (simp (disch := omega) only [mH_t64, mH_r1, mH_r3, mH_r4, mH_r5, mH_r6, mH_r8, mH_r9, mH_r10, mH_r11, mH_r12, mH_r14, mH_i0, mH_i2, mH_i7, mH_i13, mH_i15, mH_t71, mH_t, mH_lr, mH_l65, mH_l69, mH_l70, mH_l71, mH_l72, mH_l73, mH_l74, mH_l75, mH_c, ea, rk]; rfl) | (show _ = 2; assumption) | (show _ = 1; assumption) | (show _ = 0; assumption) | (show _ = 3; assumption) | (show _ = 4; assumption)) rfl (Nat.le_of_ble_eq_true rfl) (Nat.le_of_ble_eq_true rfl) (m_cut a ha j 12 ⟨hj.1, by omega⟩ (Or.inr rfl) hljx.2.2.1 (by rw [ea]; exact hljR)) ?_
      rintro _ _ _ ⟨rfl, rfl, u, rfl, hu, ku⟩
      refine ⟨by show (0 : Nat) ≠ 4; decide, ?_⟩
      rw [if_neg (by show ¬ (0 : Nat) = 3; decide)]
      try dsimp only
      have eu : u a = v a := (hu.1 a (by omega) (by omega) (by omega)).trans ea
      have pu : Pc u (u a) q i (gL A i) q := by { rw [eu]; exact Pc_fr pw hu (by omega) }
      have pj : Pc u (u a) (12 + q) j (gL A j) q := Pc_of (o := 12) ku (by rw [eu]; exact hljR) ⟨hj.1, by omega⟩ hljx.2.2.1 (Or.inr rfl) hq0 (by omega) rfl
      show mv_Ev _ _ 33 _ _ _ _ _
      refine e_step (pc' := 34) hK rfl rfl rfl ?_
      refine e_step (pc' := 35) hK rfl rfl rfl ?_
      refine e_step (pc' := 36) hK rfl rfl rfl ?_
      refine e_step (pc' := 38) hK rfl rfl rfl ?_
      refine e_cRS3 (z := 120) (pc' := 41) hK rfl rfl rfl (Nat.le_of_ble_eq_true rfl) (Nat.le_of_ble_eq_true rfl) (m_kindOf a ha t q (by omega) (by omega)) (by decide) rfl ?_
      try simp (disch := omega) only [mH_t64, mH_r1, mH_r3, mH_r4, mH_r5, mH_r6, mH_r8, mH_r9, mH_r10, mH_r11, mH_r12, mH_r14, mH_i0, mH_i2, mH_i7, mH_i13, mH_i15, mH_t71, mH_t, mH_lr, mH_l65, mH_l69, mH_l70, mH_l71, mH_l72, mH_l73, mH_l74, mH_l75, mH_c, ea, rk, eu]
      refine e_step (pc' := 42) hK rfl rfl rfl ?_
      refine e_icmp (t := 73) (pc' := 45) hK rfl (by first | omega | exact bo_i _) (by first | omega | exact bo_i _) (by decide) rfl (fun hb42 => ?_) (fun hb42 => ?_)
      · replace hb42 := cq_ne.1.mp hb42
        try simp only [bo_0, Bool.not_eq_false] at hb42
        have k3x : xk (gL A i) q ≠ 3 := fun e => hb42 (k3.1.mpr e)
        refine e_step (pc' := 74) hK rfl rfl rfl ?_
        refine e_step (pc' := 75) hK rfl rfl rfl ?_
        refine e_step (pc' := 77) hK rfl rfl rfl ?_
        refine e_step (pc' := 79) hK rfl rfl rfl ?_
        refine e_step (pc' := 81) hK rfl rfl rfl ?_
        refine e_step (pc' := 82) hK rfl rfl rfl ?_
        refine e_cRV4 (z := 126) (pc' := 85) hK rfl rfl (by first | (simp (disch := omega) only [mH_t64, mH_r1, mH_r3, mH_r4, mH_r5, mH_r6, mH_r8, mH_r9, mH_r10, mH_r11, mH_r12, mH_r14, mH_i0, mH_i2, mH_i7, mH_i13, mH_i15, mH_t71, mH_t, mH_lr, mH_l65, mH_l69, mH_l70, mH_l71, mH_l72, mH_l73, mH_l74, mH_l75, mH_c, ea, rk, eu]; rfl) | (show _ = 2; assumption) | (show _ = 1; assumption) | (show _ = 0; assumption) | (show _ = 3; assumption) | (show _ = 4; assumption)) rfl (Nat.le_of_ble_eq_true rfl) (Nat.le_of_ble_eq_true rfl) (m_same a ha pu pj) (by decide) rfl ?_
        try simp (disch := omega) only [mH_t64, mH_r1, mH_r3, mH_r4, mH_r5, mH_r6, mH_r8, mH_r9, mH_r10, mH_r11, mH_r12, mH_r14, mH_i0, mH_i2, mH_i7, mH_i13, mH_i15, mH_t71, mH_t, mH_lr, mH_l65, mH_l69, mH_l70, mH_l71, mH_l72, mH_l73, mH_l74, mH_l75, mH_c, ea, rk, eu]
        refine e_step (pc' := 87) hK rfl rfl rfl ?_
        try simp only [List.set_cons_zero, List.set_cons_succ]
        refine e_step (pc' := 89) hK rfl rfl rfl ?_
        refine e_if (t := 94) (pc' := 92) hK rfl (by first | omega | exact bo_i _) (by decide) rfl (fun hb89 => ?_) (fun hb89 => ?_)
        · replace hb89 := cq_eq.1.mp hb89
          try simp only [bo_0, Bool.not_eq_false] at hb89
          refine e_step (pc' := 95) hK rfl rfl rfl ?_
          refine e_step (pc' := 96) hK rfl rfl rfl ?_
          refine e_step (pc' := 98) hK rfl rfl rfl ?_
          refine e_cRS3 (z := 122) (pc' := 101) hK rfl rfl rfl (Nat.le_of_ble_eq_true rfl) (Nat.le_of_ble_eq_true rfl) (m_before a ha (by rw [eu]; exact hR) hI t (by omega) j hj.1 (by omega)) (by decide) rfl ?_
          try simp (disch := omega) only [mH_t64, mH_r1, mH_r3, mH_r4, mH_r5, mH_r6, mH_r8, mH_r9, mH_r10, mH_r11, mH_r12, mH_r14, mH_i0, mH_i2, mH_i7, mH_i13, mH_i15, mH_t71, mH_t, mH_lr, mH_l65, mH_l69, mH_l70, mH_l71, mH_l72, mH_l73, mH_l74, mH_l75, mH_c, ea, rk, eu]
          refine e_step (pc' := 103) hK rfl rfl rfl ?_
          try simp only [List.set_cons_zero, List.set_cons_succ]
          refine e_goto (t := 16) hK rfl (by decide) ?_
          refine ih u (glo A t j) _ ⟨?_, by { rw [← eu]; exact pu }, ms_t hw hu.1, fun k k0 k1 k2 k3 k4 => ?_⟩
          · rcases glo_p A t j with g9 | g9
            · exact Or.inl g9
            · exact Or.inr ⟨g9.1, by omega, by omega, g9.2.2.2.1⟩
          · by_cases e1 : k = j
            · subst e1; rw [csm_w k3x k0 k3]; exact hb89
            · by_cases e2 : j < k
              · exact hf k k0 e2 k2 k3 k4
              · rcases glo_p A t j with g9 | g9
                · exact absurd k4 (glo_n g9 k k0 (by omega) k3)
                · exact absurd k4 (g9.2.2.2.2 k k1 (by omega) k3)
        · replace hb89 := cq_eq.2.mp hb89
          try simp only [bo_0, Bool.not_eq_false] at hb89
          refine e_step (pc' := 93) hK rfl rfl rfl ?_
          refine e_ret hK rfl rfl (by first | rfl | (simp only [mv_ret]; rw [if_pos]; exact Or.inr ⟨rfl, by omega⟩) | (simp only [mv_ret]; rw [if_pos]; exact Or.inr ⟨rfl, by unfold mv_bo; split <;> first | exact Or.inl rfl | exact Or.inr rfl⟩)) ?_
          refine ⟨?_, rfl, u, rfl, ms_t hw hu.1⟩
          rw [cz_t hj.1 (by omega) hj.2.2.1 hj.2.2.2 (by rw [csm_w k3x hj.1 (by omega)]; exact hb89)]
          rfl
      · replace hb42 := cq_ne.2.mp hb42
        try simp only [bo_0, Bool.not_eq_false] at hb42
        have k3x : xk (gL A i) q = 3 := k3.1.mp hb42
        have v1 := xv_b3 hlx.2.2.1 k3x
        have v2 := xv_b3 hljx.2.2.1 (k3j.mp hb42)
        refine e_step (pc' := 46) hK rfl rfl rfl ?_
        refine e_step (pc' := 47) hK rfl rfl rfl ?_
        refine e_step (pc' := 49) hK rfl rfl rfl ?_
        refine e_cRV3 (z := 124) (pc' := 52) hK rfl rfl (by first | (simp (disch := omega) only [mH_t64, mH_r1, mH_r3, mH_r4, mH_r5, mH_r6, mH_r8, mH_r9, mH_r10, mH_r11, mH_r12, mH_r14, mH_i0, mH_i2, mH_i7, mH_i13, mH_i15, mH_t71, mH_t, mH_lr, mH_l65, mH_l69, mH_l70, mH_l71, mH_l72, mH_l73, mH_l74, mH_l75, mH_c, ea, rk, eu]; rfl) | (show _ = 2; assumption) | (show _ = 1; assumption) | (show _ = 0; assumption) | (show _ = 3; assumption) | (show _ = 4; assumption)) rfl (Nat.le_of_ble_eq_true rfl) (Nat.le_of_ble_eq_true rfl) (m_val a ha pu k3x) (by decide) rfl ?_
        try simp (disch := omega) only [mH_t64, mH_r1, mH_r3, mH_r4, mH_r5, mH_r6, mH_r8, mH_r9, mH_r10, mH_r11, mH_r12, mH_r14, mH_i0, mH_i2, mH_i7, mH_i13, mH_i15, mH_t71, mH_t, mH_lr, mH_l65, mH_l69, mH_l70, mH_l71, mH_l72, mH_l73, mH_l74, mH_l75, mH_c, ea, rk, eu]
        refine e_step (pc' := 53) hK rfl rfl rfl ?_
        refine e_step (pc' := 54) hK rfl rfl rfl ?_
        refine e_step (pc' := 56) hK rfl rfl rfl ?_
        refine e_step (pc' := 58) hK rfl rfl rfl ?_
        refine e_step (pc' := 59) hK rfl rfl rfl ?_
        refine e_cRV3 (z := 124) (pc' := 62) hK rfl rfl (by first | (simp (disch := omega) only [mH_t64, mH_r1, mH_r3, mH_r4, mH_r5, mH_r6, mH_r8, mH_r9, mH_r10, mH_r11, mH_r12, mH_r14, mH_i0, mH_i2, mH_i7, mH_i13, mH_i15, mH_t71, mH_t, mH_lr, mH_l65, mH_l69, mH_l70, mH_l71, mH_l72, mH_l73, mH_l74, mH_l75, mH_c, ea, rk, eu]; rfl) | (show _ = 2; assumption) | (show _ = 1; assumption) | (show _ = 0; assumption) | (show _ = 3; assumption) | (show _ = 4; assumption)) rfl (Nat.le_of_ble_eq_true rfl) (Nat.le_of_ble_eq_true rfl) (m_val a ha pj (k3j.mp hb42)) (by decide) rfl ?_
        try simp (disch := omega) only [mH_t64, mH_r1, mH_r3, mH_r4, mH_r5, mH_r6, mH_r8, mH_r9, mH_r10, mH_r11, mH_r12, mH_r14, mH_i0, mH_i2, mH_i7, mH_i13, mH_i15, mH_t71, mH_t, mH_lr, mH_l65, mH_l69, mH_l70, mH_l71, mH_l72, mH_l73, mH_l74, mH_l75, mH_c, ea, rk, eu]
        refine e_icmp (t := 69) (pc' := 65) hK rfl (by first | omega | exact bo_i _) (by first | omega | exact bo_i _) (by decide) rfl (fun hb62 => ?_) (fun hb62 => ?_)
        · replace hb62 := cq_ne.1.mp hb62
          try simp only [bo_0, Bool.not_eq_false] at hb62
          refine e_step (pc' := 70) hK rfl rfl rfl ?_
          refine e_goto (t := 85) hK rfl (by decide) ?_
          refine e_step (pc' := 87) hK rfl rfl rfl ?_
          try simp only [List.set_cons_zero, List.set_cons_succ]
          refine e_step (pc' := 89) hK rfl rfl rfl ?_
          refine e_if (t := 94) (pc' := 92) hK rfl (by first | omega | exact bo_i _) (by decide) rfl (fun hb89 => ?_) (fun hb89 => ?_)
          · replace hb89 := cq_eq.1.mp hb89
            try simp only [bo_0, Bool.not_eq_false] at hb89
            refine e_step (pc' := 95) hK rfl rfl rfl ?_
            refine e_step (pc' := 96) hK rfl rfl rfl ?_
            refine e_step (pc' := 98) hK rfl rfl rfl ?_
            refine e_cRS3 (z := 122) (pc' := 101) hK rfl rfl rfl (Nat.le_of_ble_eq_true rfl) (Nat.le_of_ble_eq_true rfl) (m_before a ha (by rw [eu]; exact hR) hI t (by omega) j hj.1 (by omega)) (by decide) rfl ?_
            try simp (disch := omega) only [mH_t64, mH_r1, mH_r3, mH_r4, mH_r5, mH_r6, mH_r8, mH_r9, mH_r10, mH_r11, mH_r12, mH_r14, mH_i0, mH_i2, mH_i7, mH_i13, mH_i15, mH_t71, mH_t, mH_lr, mH_l65, mH_l69, mH_l70, mH_l71, mH_l72, mH_l73, mH_l74, mH_l75, mH_c, ea, rk, eu]
            refine e_step (pc' := 103) hK rfl rfl rfl ?_
            try simp only [List.set_cons_zero, List.set_cons_succ]
            refine e_goto (t := 16) hK rfl (by decide) ?_
            refine ih u (glo A t j) _ ⟨?_, by { rw [← eu]; exact pu }, ms_t hw hu.1, fun k k0 k1 k2 k3 k4 => ?_⟩
            · rcases glo_p A t j with g9 | g9
              · exact Or.inl g9
              · exact Or.inr ⟨g9.1, by omega, by omega, g9.2.2.2.1⟩
            · by_cases e1 : k = j
              · subst e1; rw [csm_v k3x k0 k3]; exact decide_eq_false (by omega)
              · by_cases e2 : j < k
                · exact hf k k0 e2 k2 k3 k4
                · rcases glo_p A t j with g9 | g9
                  · exact absurd k4 (glo_n g9 k k0 (by omega) k3)
                  · exact absurd k4 (g9.2.2.2.2 k k1 (by omega) k3)
          · replace hb89 := cq_eq.2.mp hb89
            try simp only [bo_0, Bool.not_eq_false] at hb89
            exfalso; first | omega | exact absurd trivial (by assumption) | (first | omega | exact bo_i _)
        · replace hb62 := cq_ne.2.mp hb62
          try simp only [bo_0, Bool.not_eq_false] at hb62
          refine e_step (pc' := 66) hK rfl rfl rfl ?_
          refine e_goto (t := 85) hK rfl (by decide) ?_
          refine e_step (pc' := 87) hK rfl rfl rfl ?_
          try simp only [List.set_cons_zero, List.set_cons_succ]
          refine e_step (pc' := 89) hK rfl rfl rfl ?_
          refine e_if (t := 94) (pc' := 92) hK rfl (by first | omega | exact bo_i _) (by decide) rfl (fun hb89 => ?_) (fun hb89 => ?_)
          · replace hb89 := cq_eq.1.mp hb89
            try simp only [bo_0, Bool.not_eq_false] at hb89
            exfalso; first | omega | exact absurd trivial (by assumption) | (first | omega | exact bo_i _)
          · replace hb89 := cq_eq.2.mp hb89
            try simp only [bo_0, Bool.not_eq_false] at hb89
            refine e_step (pc' := 93) hK rfl rfl rfl ?_
            refine e_ret hK rfl rfl (by first | rfl | (simp only [mv_ret]; rw [if_pos]; exact Or.inr ⟨rfl, by omega⟩) | (simp only [mv_ret]; rw [if_pos]; exact Or.inr ⟨rfl, by unfold mv_bo; split <;> first | exact Or.inl rfl | exact Or.inr rfl⟩)) ?_
            refine ⟨?_, rfl, u, rfl, ms_t hw hu.1⟩
            rw [cz_t hj.1 (by omega) hj.2.2.1 hj.2.2.2 (by rw [csm_v k3x hj.1 (by omega)]; exact decide_eq_true (by omega))]
            rfl
set_option maxRecDepth 10000 in
theorem m_newThing (a : Int) (ha : 266 ≤ a ∧ a ≤ 268) {A : lg} (hR : Rw (v a) A) (hI : gI A) (t i q : Int) (hi0 : 0 ≤ i) (hi1 : i < gn A) (ht : gP A i = t) (hq0 : 0 ≤ q) (hq1 : q < xn (gs A t)) : mv_Cl sc q_Mod_isNewThing [(2, 264), (2, a), (0, t), (0, i), (0, q)] c (mH h v) (mv_Ms h v (mv_bo (!cz A (gL A i) t q i)) c) := by
  have b1 := hI.1
  have b2 := hI.2.1
  have r0 := hR.1
  have r1 := hR.2.1
  have hlx := gI_l hI hi0 hi1 ht
  have hlR := (hR.2.2.1 i hi0 hi1).1
  have b3 := xn_b (gSok hI hlx.1 hlx.2.1)
  have tb : 0 ≤ t ∧ t < gT A := ⟨hlx.1, hlx.2.1⟩
  show mv_Ev sc 142 0 [(2, 264), (2, a), (0, t), (0, i), (0, q), (5, 0), (5, 0)] [] c (mH h v) _
  have hK : (mv_m 142).1 = kc_Mod_isNewThing := rfl
  refine e_step (pc' := 1) hK rfl rfl rfl ?_
  refine e_step (pc' := 2) hK rfl rfl rfl ?_
  refine e_step (pc' := 3) hK rfl rfl rfl ?_
  refine e_step (pc' := 4) hK rfl rfl rfl ?_
  refine e_cQV4 (z := 123) hK rfl rfl (by first | (simp (disch := omega) only [mH_t64, mH_r1, mH_r3, mH_r4, mH_r5, mH_r6, mH_r8, mH_r9, mH_r10, mH_r11, mH_r12, mH_r14, mH_i0, mH_i2, mH_i7, mH_i13, mH_i15, mH_t71, mH_t, mH_lr, mH_l65, mH_l69, mH_l70, mH_l71, mH_l72, mH_l73, mH_l74, mH_l75, mH_c]; rfl) | (show _ = 2; assumption) | (show _ = 1; assumption) | (show _ = 0; assumption) | (show _ = 3; assumption) | (show _ = 4; assumption)) rfl (Nat.le_of_ble_eq_true rfl) (Nat.le_of_ble_eq_true rfl) (m_cut a ha i 0 ⟨hi0, by omega⟩ (Or.inl rfl) hlx.2.2.1 hlR) ?_
  rintro _ _ _ ⟨rfl, rfl, w, rfl, hw, kw⟩
  refine ⟨by show (0 : Nat) ≠ 4; decide, ?_⟩
  rw [if_neg (by show ¬ (0 : Nat) = 3; decide)]
  try dsimp only
  have ea : w a = v a := hw.1 a (by omega) (by omega) (by omega)
  have pw : Pc w (v a) q i (gL A i) q := Pc_of (o := 0) kw hlR ⟨hi0, by omega⟩ hlx.2.2.1 (Or.inl rfl) hq0 (by omega) (by omega)
  show mv_Ev _ _ 7 _ _ _ _ _
  refine e_step (pc' := 8) hK rfl rfl rfl ?_
  refine e_step (pc' := 9) hK rfl rfl rfl ?_
  refine e_step (pc' := 10) hK rfl rfl rfl ?_
  refine e_step (pc' := 11) hK rfl rfl rfl ?_
  refine e_cRS3 (z := 122) (pc' := 14) hK rfl rfl rfl (Nat.le_of_ble_eq_true rfl) (Nat.le_of_ble_eq_true rfl) (m_before a ha (by rw [ea]; exact hR) hI t (by omega) i hi0 (by omega)) (by decide) rfl ?_
  try simp (disch := omega) only [mH_t64, mH_r1, mH_r3, mH_r4, mH_r5, mH_r6, mH_r8, mH_r9, mH_r10, mH_r11, mH_r12, mH_r14, mH_i0, mH_i2, mH_i7, mH_i13, mH_i15, mH_t71, mH_t, mH_lr, mH_l65, mH_l69, mH_l70, mH_l71, mH_l72, mH_l73, mH_l74, mH_l75, mH_c]
  refine e_step (pc' := 16) hK rfl rfl rfl ?_
  try simp only [List.set_cons_zero, List.set_cons_succ]
  refine m_newT1 a ha hR hI t i q hi0 hi1 ht hq0 hq1 i.toNat w _ _ ⟨?_, pw, hw.1, fun k k0 k1 k2 k3 k4 => ?_⟩
  · rcases glo_p A t i with g9 | g9
    · exact Or.inl g9
    · exact Or.inr ⟨g9.1, by omega, by omega, g9.2.2.2.1⟩
  · rcases glo_p A t i with g9 | g9
    · exact absurd k4 (glo_n g9 k k0 k2 k3)
    · exact absurd k4 (g9.2.2.2.2 k k1 k2 k3)
end MP
