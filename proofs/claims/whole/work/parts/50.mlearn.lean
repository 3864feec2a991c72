/-! the reference: again, removing, learning, taking anew (written by wip/whole/m50.py) -/
section MN
variable {sc : Int × (Int → Int)} {c : mv_C} {h : mv_H} {v : mvt}
set_option maxRecDepth 10000 in
theorem m_againOn (a : Int) (ha : 266 ≤ a ∧ a ≤ 268) {A : lg} (hR : Rw (v a) A) (hI : gI A) (i : Int) (hi0 : 0 ≤ i) (hi1 : i < gn A) (hn : gn A ≤ 24) (hT : gT A ≤ 12) : mv_Cl sc q_Mod_againOn [(2, 264), (2, a), (0, i)] c (mH h v) (fun r c' h' => r = (0, (gn A : Int)) ∧ c' = c ∧ ∃ w, h' = mH h w ∧ mo a v w ∧ Rw (w a) (gpu A (gL A i) (gnw A (gL A i)))) := by
  have b1 := hI.1
  have b2 := hI.2.1
  have r0 := hR.1
  have r1 := hR.2.1
  show mv_Ev sc 155 0 [(2, 264), (2, a), (0, i)] [] c (mH h v) _
  have hK : (mv_m 155).1 = kc_Mod_againOn := rfl
  refine e_step (pc' := 1) hK rfl rfl rfl ?_
  refine e_step (pc' := 2) hK rfl rfl rfl ?_
  refine e_cQS2 (z := 156) hK rfl rfl rfl (Nat.le_of_ble_eq_true rfl) (Nat.le_of_ble_eq_true rfl) (m_layAgain a ha hR hI i hi0 hi1 hn) ?_
  rintro _ _ _ ⟨rfl, rfl, w, rfl, hw, g2, g3⟩
  refine ⟨by decide, ?_⟩
  rw [if_pos rfl]
  try dsimp only
  have hRw : Rw (w a) A := Rw_same hR hI (fun q hq => g3 q hq)
  have hlw : Rl (w a) (gn A) (gL A i) := Rl_mv (gLok hI hi0 hi1) (hR.2.2.1 i hi0 hi1).1 g2
  show mv_Ev _ _ 5 _ _ _ _ _
  refine e_step (pc' := 6) hK rfl rfl rfl ?_
  refine e_step (pc' := 7) hK rfl rfl rfl ?_
  refine e_cQV2 (z := 152) hK rfl rfl (by first | (simp (disch := omega) only [mH_t64, mH_r1, mH_r3, mH_r4, mH_r5, mH_r6, mH_r8, mH_r9, mH_r10, mH_r11, mH_r12, mH_r14, mH_i0, mH_i2, mH_i7, mH_i13, mH_i15, mH_t71, mH_t, mH_lr, mH_l65, mH_l69, mH_l70, mH_l71, mH_l72, mH_l73, mH_l74, mH_l75, mH_c]; rfl) | (show _ = 2; assumption) | (show _ = 1; assumption) | (show _ = 0; assumption) | (show _ = 3; assumption) | (show _ = 4; assumption)) rfl (Nat.le_of_ble_eq_true rfl) (Nat.le_of_ble_eq_true rfl) (m_settle a ha hRw hI (gLok hI hi0 hi1) hlw hn hT) ?_
  rintro _ _ _ ⟨rfl, rfl, u, rfl, hu, ru⟩
  refine ⟨by show (0 : Nat) ≠ 4; decide, ?_⟩
  rw [if_neg (by show ¬ (0 : Nat) = 3; decide)]
  try dsimp only
  have u0 : u a 0 = gn A + 1 := by { rw [ru.1, gpu_n]; rfl }
  show mv_Ev _ _ 10 _ _ _ _ _
  refine e_step (pc' := 11) hK rfl rfl rfl ?_
  refine e_step (pc' := 12) hK rfl rfl rfl ?_
  refine e_step (pc' := 13) hK rfl rfl rfl ?_
  refine e_iald (pc' := 14) hK rfl (by simp (disch := omega) only [mH_t64, mH_r1, mH_r3, mH_r4, mH_r5, mH_r6, mH_r8, mH_r9, mH_r10, mH_r11, mH_r12, mH_r14, mH_i0, mH_i2, mH_i7, mH_i13, mH_i15, mH_t71, mH_t, mH_lr, mH_l65, mH_l69, mH_l70, mH_l71, mH_l72, mH_l73, mH_l74, mH_l75, mH_c, u0]) (by omega) (by (try simp (disch := omega) only [mH_t64, mH_r1, mH_r3, mH_r4, mH_r5, mH_r6, mH_r8, mH_r9, mH_r10, mH_r11, mH_r12, mH_r14, mH_i0, mH_i2, mH_i7, mH_i13, mH_i15, mH_t71, mH_t, mH_lr, mH_l65, mH_l69, mH_l70, mH_l71, mH_l72, mH_l73, mH_l74, mH_l75, mH_c, u0]); omega) rfl ?_
  try simp (disch := omega) only [mH_t64, mH_r1, mH_r3, mH_r4, mH_r5, mH_r6, mH_r8, mH_r9, mH_r10, mH_r11, mH_r12, mH_r14, mH_i0, mH_i2, mH_i7, mH_i13, mH_i15, mH_t71, mH_t, mH_lr, mH_l65, mH_l69, mH_l70, mH_l71, mH_l72, mH_l73, mH_l74, mH_l75, mH_c, u0]
  refine e_step (pc' := 15) hK rfl rfl rfl ?_
  refine e_step (pc' := 16) hK rfl rfl rfl ?_
  refine e_ret hK rfl rfl rfl ?_
  refine ⟨?_, rfl, u, rfl, mo_t (mq_o hw) hu, ru⟩
  congr 1
  omega
set_option maxRecDepth 10000 in
theorem m_cutT2 (a : Int) (ha : 266 ≤ a ∧ a ≤ 268) {A : lg} (hR : Rw (v a) A) {t0 : Int} (hJ : gJ A t0) (t : Int) (h0 : 0 ≤ t) (h1 : t < gT A) : ∀ (m : Nat) (j : Nat) (w : mvt), (j + m = gn A ∧ mq a v w ∧ w a 0 = gn A ∧ w a 1 = (gT A : Int) - 1 ∧ (∀ i : Int, 0 ≤ i → i < gn A → w a (2 + 42 * i + 1) = if i < j then (if t < gP A i then gP A i - 1 else gP A i) else gP A i) ∧ (∀ i : Int, 0 ≤ i → i < gn A → ∀ k : Int, 0 ≤ k → k < 42 → k ≠ 1 → w a (2 + 42 * i + k) = v a (2 + 42 * i + k)) ∧ ∀ s : Int, 0 ≤ s → s < (gT A : Int) - 1 → ∀ k : Int, 0 ≤ k → k < 13 → w a (1052 + 13 * s + k) = v a (1052 + 13 * (if s < t then s else s + 1) + k)) → mv_Ev sc 159 39 [(2, a), (0, t), (0, (j : Int))] [] c (mH h w) (fun r c' h' => r = (3, 0) ∧ c' = c ∧ ∃ w, h' = mH h w ∧ mq a v w ∧ Rw (w a) (gdropT A t)) := by
  intro m
  induction m with
  | zero =>
    intro j w ⟨hj, hw, w0, w1, g1, g2, g3⟩
    have b1 := hJ.1
    have b2 := hJ.2.1
    have r0 := hR.1
    have r1 := hR.2.1
    have eP := fun (k : Int) (k0 : 0 ≤ k) (k1 : k < gn A) => (hR.2.2.1 k k0 k1).2
    have hK : (mv_m 159).1 = kc_Mod_cutTemplate := rfl
    refine e_step (pc' := 40) hK rfl rfl rfl ?_
    refine e_step (pc' := 41) hK rfl rfl rfl ?_
    refine e_step (pc' := 42) hK rfl rfl rfl ?_
    refine e_iald (pc' := 43) hK rfl (by simp (disch := omega) only [mH_t64, mH_r1, mH_r3, mH_r4, mH_r5, mH_r6, mH_r8, mH_r9, mH_r10, mH_r11, mH_r12, mH_r14, mH_i0, mH_i2, mH_i7, mH_i13, mH_i15, mH_t71, mH_t, mH_lr, mH_l65, mH_l69, mH_l70, mH_l71, mH_l72, mH_l73, mH_l74, mH_l75, mH_c, w0]) (by omega) (by (try simp (disch := omega) only [mH_t64, mH_r1, mH_r3, mH_r4, mH_r5, mH_r6, mH_r8, mH_r9, mH_r10, mH_r11, mH_r12, mH_r14, mH_i0, mH_i2, mH_i7, mH_i13, mH_i15, mH_t71, mH_t, mH_lr, mH_l65, mH_l69, mH_l70, mH_l71, mH_l72, mH_l73, mH_l74, mH_l75, mH_c, w0]); omega) rfl ?_
    try simp (disch := omega) only [mH_t64, mH_r1, mH_r3, mH_r4, mH_r5, mH_r6, mH_r8, mH_r9, mH_r10, mH_r11, mH_r12, mH_r14, mH_i0, mH_i2, mH_i7, mH_i13, mH_i15, mH_t71, mH_t, mH_lr, mH_l65, mH_l69, mH_l70, mH_l71, mH_l72, mH_l73, mH_l74, mH_l75, mH_c, w0]
    refine e_icmp (t := 80) (pc' := 46) hK rfl (by omega) (by omega) (by decide) rfl (fun hb43 => ?_) (fun hb43 => ?_)
    · replace hb43 := cq_ge.1.mp hb43
      refine e_ret hK rfl rfl rfl ?_
      refine ⟨rfl, rfl, w, rfl, hw, Rw_dropT hR hJ h0 h1 w0 w1 (fun i i0 i1 => g2 i i0 i1) (fun i i0 i1 => ?_) g3⟩
      rw [g1 i i0 i1, if_pos (by omega)]
    · replace hb43 := cq_ge.2.mp hb43
      exfalso; first | omega | exact absurd trivial (by assumption)
  | succ m ih =>
    intro j w ⟨hj, hw, w0, w1, g1, g2, g3⟩
    have b1 := hJ.1
    have b2 := hJ.2.1
    have r0 := hR.1
    have r1 := hR.2.1
    have eP := fun (k : Int) (k0 : 0 ≤ k) (k1 : k < gn A) => (hR.2.2.1 k k0 k1).2
    have hK : (mv_m 159).1 = kc_Mod_cutTemplate := rfl
    refine e_step (pc' := 40) hK rfl rfl rfl ?_
    refine e_step (pc' := 41) hK rfl rfl rfl ?_
    refine e_step (pc' := 42) hK rfl rfl rfl ?_
    refine e_iald (pc' := 43) hK rfl (by simp (disch := omega) only [mH_t64, mH_r1, mH_r3, mH_r4, mH_r5, mH_r6, mH_r8, mH_r9, mH_r10, mH_r11, mH_r12, mH_r14, mH_i0, mH_i2, mH_i7, mH_i13, mH_i15, mH_t71, mH_t, mH_lr, mH_l65, mH_l69, mH_l70, mH_l71, mH_l72, mH_l73, mH_l74, mH_l75, mH_c, w0]) (by omega) (by (try simp (disch := omega) only [mH_t64, mH_r1, mH_r3, mH_r4, mH_r5, mH_r6, mH_r8, mH_r9, mH_r10, mH_r11, mH_r12, mH_r14, mH_i0, mH_i2, mH_i7, mH_i13, mH_i15, mH_t71, mH_t, mH_lr, mH_l65, mH_l69, mH_l70, mH_l71, mH_l72, mH_l73, mH_l74, mH_l75, mH_c, w0]); omega) rfl ?_
    try simp (disch := omega) only [mH_t64, mH_r1, mH_r3, mH_r4, mH_r5, mH_r6, mH_r8, mH_r9, mH_r10, mH_r11, mH_r12, mH_r14, mH_i0, mH_i2, mH_i7, mH_i13, mH_i15, mH_t71, mH_t, mH_lr, mH_l65, mH_l69, mH_l70, mH_l71, mH_l72, mH_l73, mH_l74, mH_l75, mH_c, w0]
    refine e_icmp (t := 80) (pc' := 46) hK rfl (by omega) (by omega) (by decide) rfl (fun hb43 => ?_) (fun hb43 => ?_)
    · replace hb43 := cq_ge.1.mp hb43
      exfalso; first | omega | exact absurd trivial (by assumption)
    · replace hb43 := cq_ge.2.mp hb43
      have gj := g1 j (by omega) (by omega)
      rw [if_neg (by omega)] at gj
      have gb := hJ.2.2.1 j (by omega) (by omega)
      refine e_step (pc' := 47) hK rfl rfl rfl ?_
      refine e_step (pc' := 48) hK rfl rfl rfl ?_
      refine e_cRS1 (z := 116) (pc' := 51) hK rfl rfl rfl (Nat.le_of_ble_eq_true rfl) (Nat.le_of_ble_eq_true rfl) (m_lineAt (j : Int)) (by decide) rfl ?_
      try simp (disch := omega) only [mH_t64, mH_r1, mH_r3, mH_r4, mH_r5, mH_r6, mH_r8, mH_r9, mH_r10, mH_r11, mH_r12, mH_r14, mH_i0, mH_i2, mH_i7, mH_i13, mH_i15, mH_t71, mH_t, mH_lr, mH_l65, mH_l69, mH_l70, mH_l71, mH_l72, mH_l73, mH_l74, mH_l75, mH_c, w0, gj]
      refine e_step (pc' := 52) hK rfl rfl rfl ?_
      refine e_step (pc' := 53) hK rfl rfl rfl ?_
      refine e_step (pc' := 54) hK rfl rfl rfl ?_
      refine e_iald (pc' := 55) hK rfl (by simp (disch := omega) only [mH_t64, mH_r1, mH_r3, mH_r4, mH_r5, mH_r6, mH_r8, mH_r9, mH_r10, mH_r11, mH_r12, mH_r14, mH_i0, mH_i2, mH_i7, mH_i13, mH_i15, mH_t71, mH_t, mH_lr, mH_l65, mH_l69, mH_l70, mH_l71, mH_l72, mH_l73, mH_l74, mH_l75, mH_c, w0, gj]) (by omega) (by (try simp (disch := omega) only [mH_t64, mH_r1, mH_r3, mH_r4, mH_r5, mH_r6, mH_r8, mH_r9, mH_r10, mH_r11, mH_r12, mH_r14, mH_i0, mH_i2, mH_i7, mH_i13, mH_i15, mH_t71, mH_t, mH_lr, mH_l65, mH_l69, mH_l70, mH_l71, mH_l72, mH_l73, mH_l74, mH_l75, mH_c, w0, gj]); omega) rfl ?_
      try simp (disch := omega) only [mH_t64, mH_r1, mH_r3, mH_r4, mH_r5, mH_r6, mH_r8, mH_r9, mH_r10, mH_r11, mH_r12, mH_r14, mH_i0, mH_i2, mH_i7, mH_i13, mH_i15, mH_t71, mH_t, mH_lr, mH_l65, mH_l69, mH_l70, mH_l71, mH_l72, mH_l73, mH_l74, mH_l75, mH_c, w0, gj]
      refine e_step (pc' := 56) hK rfl rfl rfl ?_
      refine e_step (pc' := 57) hK rfl rfl rfl ?_
      refine e_cRS1 (z := 116) (pc' := 60) hK rfl rfl rfl (Nat.le_of_ble_eq_true rfl) (Nat.le_of_ble_eq_true rfl) (m_lineAt (j : Int)) (by decide) rfl ?_
      try simp (disch := omega) only [mH_t64, mH_r1, mH_r3, mH_r4, mH_r5, mH_r6, mH_r8, mH_r9, mH_r10, mH_r11, mH_r12, mH_r14, mH_i0, mH_i2, mH_i7, mH_i13, mH_i15, mH_t71, mH_t, mH_lr, mH_l65, mH_l69, mH_l70, mH_l71, mH_l72, mH_l73, mH_l74, mH_l75, mH_c, w0, gj]
      refine e_step (pc' := 61) hK rfl rfl rfl ?_
      refine e_step (pc' := 62) hK rfl rfl rfl ?_
      refine e_iald (pc' := 63) hK rfl (by simp (disch := omega) only [mH_t64, mH_r1, mH_r3, mH_r4, mH_r5, mH_r6, mH_r8, mH_r9, mH_r10, mH_r11, mH_r12, mH_r14, mH_i0, mH_i2, mH_i7, mH_i13, mH_i15, mH_t71, mH_t, mH_lr, mH_l65, mH_l69, mH_l70, mH_l71, mH_l72, mH_l73, mH_l74, mH_l75, mH_c, w0, gj]) (by omega) (by (try simp (disch := omega) only [mH_t64, mH_r1, mH_r3, mH_r4, mH_r5, mH_r6, mH_r8, mH_r9, mH_r10, mH_r11, mH_r12, mH_r14, mH_i0, mH_i2, mH_i7, mH_i13, mH_i15, mH_t71, mH_t, mH_lr, mH_l65, mH_l69, mH_l70, mH_l71, mH_l72, mH_l73, mH_l74, mH_l75, mH_c, w0, gj]); omega) rfl ?_
      try simp (disch := omega) only [mH_t64, mH_r1, mH_r3, mH_r4, mH_r5, mH_r6, mH_r8, mH_r9, mH_r10, mH_r11, mH_r12, mH_r14, mH_i0, mH_i2, mH_i7, mH_i13, mH_i15, mH_t71, mH_t, mH_lr, mH_l65, mH_l69, mH_l70, mH_l71, mH_l72, mH_l73, mH_l74, mH_l75, mH_c, w0, gj]
      refine e_step (pc' := 64) hK rfl rfl rfl ?_
      refine e_icmp (t := 71) (pc' := 67) hK rfl (by omega) (by omega) (by decide) rfl (fun hb64 => ?_) (fun hb64 => ?_)
      · replace hb64 := cq_le.1.mp hb64
        refine e_step (pc' := 72) hK rfl rfl rfl ?_
        refine e_step (pc' := 73) hK rfl rfl rfl ?_
        refine e_iast (pc' := 74) hK rfl (by simp (disch := omega) only [mH_t64, mH_r1, mH_r3, mH_r4, mH_r5, mH_r6, mH_r8, mH_r9, mH_r10, mH_r11, mH_r12, mH_r14, mH_i0, mH_i2, mH_i7, mH_i13, mH_i15, mH_t71, mH_t, mH_lr, mH_l65, mH_l69, mH_l70, mH_l71, mH_l72, mH_l73, mH_l74, mH_l75, mH_c, w0, gj]) (by omega) (by (try simp (disch := omega) only [mH_t64, mH_r1, mH_r3, mH_r4, mH_r5, mH_r6, mH_r8, mH_r9, mH_r10, mH_r11, mH_r12, mH_r14, mH_i0, mH_i2, mH_i7, mH_i13, mH_i15, mH_t71, mH_t, mH_lr, mH_l65, mH_l69, mH_l70, mH_l71, mH_l72, mH_l73, mH_l74, mH_l75, mH_c, w0, gj]); omega) rfl ?_
        simp (disch := omega) only [mW_0, mW_2, mW_7, mW_13, mW_15, mW_a, gu_s]
        refine e_step (pc' := 77) hK rfl rfl rfl ?_
        try simp only [List.set_cons_zero, List.set_cons_succ]
        refine e_goto (t := 39) hK rfl (by decide) ?_
        refine ih (j + 1) _ ⟨by omega, fun b n1 => by rw [gu_n n1]; exact hw b n1, ?_, ?_, fun i i0 i1 => ?_, fun i i0 i1 k k0 k1 k2 => ?_, fun s s0 s1 k k0 k1 => ?_⟩
        · rw [gu_s, up_n (by omega)]; exact w0
        · rw [gu_s, up_n (by omega)]; exact w1
        · rw [gu_s]
          by_cases e : i = j
          · rw [e, up_s, if_pos (by omega), if_neg (show ¬ t < gP A (j : Int) by omega), Int.sub_zero]
          · rw [up_n (by omega), g1 i i0 i1]
            by_cases e2 : i < j
            · rw [if_pos e2, if_pos (show i < ((j + 1 : Nat) : Int) by omega)]
            · rw [if_neg e2, if_neg (show ¬ i < ((j + 1 : Nat) : Int) by omega)]
        · rw [gu_s, up_n (by omega)]; exact g2 i i0 i1 k k0 k1 k2
        · rw [gu_s, up_n (by omega)]; exact g3 s s0 s1 k k0 k1
      · replace hb64 := cq_le.2.mp hb64
        refine e_step (pc' := 68) hK rfl rfl rfl ?_
        refine e_goto (t := 72) hK rfl (by decide) ?_
        refine e_step (pc' := 73) hK rfl rfl rfl ?_
        refine e_iast (pc' := 74) hK rfl (by simp (disch := omega) only [mH_t64, mH_r1, mH_r3, mH_r4, mH_r5, mH_r6, mH_r8, mH_r9, mH_r10, mH_r11, mH_r12, mH_r14, mH_i0, mH_i2, mH_i7, mH_i13, mH_i15, mH_t71, mH_t, mH_lr, mH_l65, mH_l69, mH_l70, mH_l71, mH_l72, mH_l73, mH_l74, mH_l75, mH_c, w0, gj]) (by omega) (by (try simp (disch := omega) only [mH_t64, mH_r1, mH_r3, mH_r4, mH_r5, mH_r6, mH_r8, mH_r9, mH_r10, mH_r11, mH_r12, mH_r14, mH_i0, mH_i2, mH_i7, mH_i13, mH_i15, mH_t71, mH_t, mH_lr, mH_l65, mH_l69, mH_l70, mH_l71, mH_l72, mH_l73, mH_l74, mH_l75, mH_c, w0, gj]); omega) rfl ?_
        simp (disch := omega) only [mW_0, mW_2, mW_7, mW_13, mW_15, mW_a, gu_s]
        refine e_step (pc' := 77) hK rfl rfl rfl ?_
        try simp only [List.set_cons_zero, List.set_cons_succ]
        refine e_goto (t := 39) hK rfl (by decide) ?_
        refine ih (j + 1) _ ⟨by omega, fun b n1 => by rw [gu_n n1]; exact hw b n1, ?_, ?_, fun i i0 i1 => ?_, fun i i0 i1 k k0 k1 k2 => ?_, fun s s0 s1 k k0 k1 => ?_⟩
        · rw [gu_s, up_n (by omega)]; exact w0
        · rw [gu_s, up_n (by omega)]; exact w1
        · rw [gu_s]
          by_cases e : i = j
          · rw [e, up_s, if_pos (by omega), if_pos (show t < gP A (j : Int) by omega)]
          · rw [up_n (by omega), g1 i i0 i1]
            by_cases e2 : i < j
            · rw [if_pos e2, if_pos (show i < ((j + 1 : Nat) : Int) by omega)]
            · rw [if_neg e2, if_neg (show ¬ i < ((j + 1 : Nat) : Int) by omega)]
        · rw [gu_s, up_n (by omega)]; exact g2 i i0 i1 k k0 k1 k2
        · rw [gu_s, up_n (by omega)]; exact g3 s s0 s1 k k0 k1
set_option maxRecDepth 10000 in
theorem m_cutT1 (a : Int) (ha : 266 ≤ a ∧ a ≤ 268) {A : lg} (hR : Rw (v a) A) {t0 : Int} (hJ : gJ A t0) (t : Int) (h0 : 0 ≤ t) (h1 : t < gT A) : ∀ (m : Nat) (k : Nat) (w : mvt), (1052 + 13 * t + k + m = 1052 + 13 * ((gT A : Int) - 1) ∧ mq a v w ∧ w a 1 = (gT A : Int) - 1 ∧ (∀ q : Int, q < 1052 → q ≠ 1 → w a q = v a q) ∧ ∀ q : Int, 1052 ≤ q → w a q = if 1052 + 13 * t ≤ q ∧ q < 1052 + 13 * t + k then v a (q + 13) else v a q) → mv_Ev sc 159 12 [(2, a), (0, t), (0, 1052 + 13 * t + (k : Int))] [] c (mH h w) (fun r c' h' => r = (3, 0) ∧ c' = c ∧ ∃ w, h' = mH h w ∧ mq a v w ∧ Rw (w a) (gdropT A t)) := by
  intro m
  induction m with
  | zero =>
    intro k w ⟨hk, hw, w1, g1, g2⟩
    have b1 := hJ.1
    have b2 := hJ.2.1
    have r0 := hR.1
    have r1 := hR.2.1
    have eP := fun (k : Int) (k0 : 0 ≤ k) (k1 : k < gn A) => (hR.2.2.1 k k0 k1).2
    have hK : (mv_m 159).1 = kc_Mod_cutTemplate := rfl
    refine e_step (pc' := 13) hK rfl rfl rfl ?_
    refine e_step (pc' := 14) hK rfl rfl rfl ?_
    refine e_step (pc' := 15) hK rfl rfl rfl ?_
    refine e_iald (pc' := 16) hK rfl (by simp (disch := omega) only [mH_t64, mH_r1, mH_r3, mH_r4, mH_r5, mH_r6, mH_r8, mH_r9, mH_r10, mH_r11, mH_r12, mH_r14, mH_i0, mH_i2, mH_i7, mH_i13, mH_i15, mH_t71, mH_t, mH_lr, mH_l65, mH_l69, mH_l70, mH_l71, mH_l72, mH_l73, mH_l74, mH_l75, mH_c, w1]) (by omega) (by (try simp (disch := omega) only [mH_t64, mH_r1, mH_r3, mH_r4, mH_r5, mH_r6, mH_r8, mH_r9, mH_r10, mH_r11, mH_r12, mH_r14, mH_i0, mH_i2, mH_i7, mH_i13, mH_i15, mH_t71, mH_t, mH_lr, mH_l65, mH_l69, mH_l70, mH_l71, mH_l72, mH_l73, mH_l74, mH_l75, mH_c, w1]); omega) rfl ?_
    try simp (disch := omega) only [mH_t64, mH_r1, mH_r3, mH_r4, mH_r5, mH_r6, mH_r8, mH_r9, mH_r10, mH_r11, mH_r12, mH_r14, mH_i0, mH_i2, mH_i7, mH_i13, mH_i15, mH_t71, mH_t, mH_lr, mH_l65, mH_l69, mH_l70, mH_l71, mH_l72, mH_l73, mH_l74, mH_l75, mH_c, w1]
    refine e_cRS1 (z := 119) (pc' := 19) hK rfl rfl rfl (Nat.le_of_ble_eq_true rfl) (Nat.le_of_ble_eq_true rfl) (m_tempAt ((gT A : Int) - 1)) (by decide) rfl ?_
    try simp (disch := omega) only [mH_t64, mH_r1, mH_r3, mH_r4, mH_r5, mH_r6, mH_r8, mH_r9, mH_r10, mH_r11, mH_r12, mH_r14, mH_i0, mH_i2, mH_i7, mH_i13, mH_i15, mH_t71, mH_t, mH_lr, mH_l65, mH_l69, mH_l70, mH_l71, mH_l72, mH_l73, mH_l74, mH_l75, mH_c, w1]
    refine e_icmp (t := 37) (pc' := 22) hK rfl (by omega) (by omega) (by decide) rfl (fun hb19 => ?_) (fun hb19 => ?_)
    · replace hb19 := cq_ge.1.mp hb19
      refine e_step (pc' := 38) hK rfl rfl rfl ?_
      refine e_step (pc' := 39) hK rfl rfl rfl ?_
      try simp only [List.set_cons_zero, List.set_cons_succ]
      refine m_cutT2 a ha hR hJ t h0 h1 (gn A) 0 w ⟨by omega, hw, (g1 0 (by omega) (by omega)).trans r0, w1, fun i i0 i1 => ?_, fun i i0 i1 q q0 q1 q2 => g1 _ (by omega) (by omega), fun s s0 s1 q q0 q1 => ?_⟩
      · rw [if_neg (by omega), g1 _ (by omega) (by omega)]; exact eP i i0 i1
      · rw [g2 _ (by omega)]
        by_cases e : s < t
        · rw [if_neg (by omega), if_pos e]
        · rw [if_pos (by omega), if_neg e, show 1052 + 13 * s + q + 13 = 1052 + 13 * (s + 1) + q from by omega]
    · replace hb19 := cq_ge.2.mp hb19
      exfalso; first | omega | exact absurd trivial (by assumption)
  | succ m ih =>
    intro k w ⟨hk, hw, w1, g1, g2⟩
    have b1 := hJ.1
    have b2 := hJ.2.1
    have r0 := hR.1
    have r1 := hR.2.1
    have eP := fun (k : Int) (k0 : 0 ≤ k) (k1 : k < gn A) => (hR.2.2.1 k k0 k1).2
    have hK : (mv_m 159).1 = kc_Mod_cutTemplate := rfl
    refine e_step (pc' := 13) hK rfl rfl rfl ?_
    refine e_step (pc' := 14) hK rfl rfl rfl ?_
    refine e_step (pc' := 15) hK rfl rfl rfl ?_
    refine e_iald (pc' := 16) hK rfl (by simp (disch := omega) only [mH_t64, mH_r1, mH_r3, mH_r4, mH_r5, mH_r6, mH_r8, mH_r9, mH_r10, mH_r11, mH_r12, mH_r14, mH_i0, mH_i2, mH_i7, mH_i13, mH_i15, mH_t71, mH_t, mH_lr, mH_l65, mH_l69, mH_l70, mH_l71, mH_l72, mH_l73, mH_l74, mH_l75, mH_c, w1]) (by omega) (by (try simp (disch := omega) only [mH_t64, mH_r1, mH_r3, mH_r4, mH_r5, mH_r6, mH_r8, mH_r9, mH_r10, mH_r11, mH_r12, mH_r14, mH_i0, mH_i2, mH_i7, mH_i13, mH_i15, mH_t71, mH_t, mH_lr, mH_l65, mH_l69, mH_l70, mH_l71, mH_l72, mH_l73, mH_l74, mH_l75, mH_c, w1]); omega) rfl ?_
    try simp (disch := omega) only [mH_t64, mH_r1, mH_r3, mH_r4, mH_r5, mH_r6, mH_r8, mH_r9, mH_r10, mH_r11, mH_r12, mH_r14, mH_i0, mH_i2, mH_i7, mH_i13, mH_i15, mH_t71, mH_t, mH_lr, mH_l65, mH_l69, mH_l70, mH_l71, mH_l72, mH_l73, mH_l74, mH_l75, mH_c, w1]
    refine e_cRS1 (z := 119) (pc' := 19) hK rfl rfl rfl (Nat.le_of_ble_eq_true rfl) (Nat.le_of_ble_eq_true rfl) (m_tempAt ((gT A : Int) - 1)) (by decide) rfl ?_
    try simp (disch := omega) only [mH_t64, mH_r1, mH_r3, mH_r4, mH_r5, mH_r6, mH_r8, mH_r9, mH_r10, mH_r11, mH_r12, mH_r14, mH_i0, mH_i2, mH_i7, mH_i13, mH_i15, mH_t71, mH_t, mH_lr, mH_l65, mH_l69, mH_l70, mH_l71, mH_l72, mH_l73, mH_l74, mH_l75, mH_c, w1]
    refine e_icmp (t := 37) (pc' := 22) hK rfl (by omega) (by omega) (by decide) rfl (fun hb19 => ?_) (fun hb19 => ?_)
    · replace hb19 := cq_ge.1.mp hb19
      exfalso; first | omega | exact absurd trivial (by assumption)
    · replace hb19 := cq_ge.2.mp hb19
      refine e_step (pc' := 23) hK rfl rfl rfl ?_
      refine e_step (pc' := 24) hK rfl rfl rfl ?_
      refine e_step (pc' := 25) hK rfl rfl rfl ?_
      refine e_step (pc' := 26) hK rfl rfl rfl ?_
      refine e_step (pc' := 28) hK rfl rfl rfl ?_
      refine e_step (pc' := 29) hK rfl rfl rfl ?_
      refine e_iald (pc' := 30) hK rfl (by simp (disch := omega) only [mH_t64, mH_r1, mH_r3, mH_r4, mH_r5, mH_r6, mH_r8, mH_r9, mH_r10, mH_r11, mH_r12, mH_r14, mH_i0, mH_i2, mH_i7, mH_i13, mH_i15, mH_t71, mH_t, mH_lr, mH_l65, mH_l69, mH_l70, mH_l71, mH_l72, mH_l73, mH_l74, mH_l75, mH_c, w1]) (by omega) (by (try simp (disch := omega) only [mH_t64, mH_r1, mH_r3, mH_r4, mH_r5, mH_r6, mH_r8, mH_r9, mH_r10, mH_r11, mH_r12, mH_r14, mH_i0, mH_i2, mH_i7, mH_i13, mH_i15, mH_t71, mH_t, mH_lr, mH_l65, mH_l69, mH_l70, mH_l71, mH_l72, mH_l73, mH_l74, mH_l75, mH_c, w1]); omega) rfl ?_
      try simp (disch := omega) only [mH_t64, mH_r1, mH_r3, mH_r4, mH_r5, mH_r6, mH_r8, mH_r9, mH_r10, mH_r11, mH_r12, mH_r14, mH_i0, mH_i2, mH_i7, mH_i13, mH_i15, mH_t71, mH_t, mH_lr, mH_l65, mH_l69, mH_l70, mH_l71, mH_l72, mH_l73, mH_l74, mH_l75, mH_c, w1]
      refine e_iast (pc' := 31) hK rfl (by simp (disch := omega) only [mH_t64, mH_r1, mH_r3, mH_r4, mH_r5, mH_r6, mH_r8, mH_r9, mH_r10, mH_r11, mH_r12, mH_r14, mH_i0, mH_i2, mH_i7, mH_i13, mH_i15, mH_t71, mH_t, mH_lr, mH_l65, mH_l69, mH_l70, mH_l71, mH_l72, mH_l73, mH_l74, mH_l75, mH_c, w1]) (by omega) (by (try simp (disch := omega) only [mH_t64, mH_r1, mH_r3, mH_r4, mH_r5, mH_r6, mH_r8, mH_r9, mH_r10, mH_r11, mH_r12, mH_r14, mH_i0, mH_i2, mH_i7, mH_i13, mH_i15, mH_t71, mH_t, mH_lr, mH_l65, mH_l69, mH_l70, mH_l71, mH_l72, mH_l73, mH_l74, mH_l75, mH_c, w1]); omega) rfl ?_
      simp (disch := omega) only [mW_0, mW_2, mW_7, mW_13, mW_15, mW_a, gu_s]
      refine e_step (pc' := 34) hK rfl rfl rfl ?_
      try simp only [List.set_cons_zero, List.set_cons_succ]
      refine e_goto (t := 12) hK rfl (by decide) ?_
      rw [show (1052 + 13 * t + (k : Int) + 1 : Int) = 1052 + 13 * t + ((k + 1 : Nat) : Int) from by omega]
      refine ih (k + 1) _ ⟨by omega, fun b n1 => by rw [gu_n n1]; exact hw b n1, ?_, fun q q0 q1 => ?_, fun q q0 => ?_⟩
      · rw [gu_s, up_n (by omega)]; exact w1
      · rw [gu_s, up_n (by omega)]; exact g1 q q0 q1
      · rw [gu_s]
        by_cases e : q = 1052 + 13 * t + k
        · rw [e, up_s, if_pos (by omega), g2 _ (by omega), if_neg (by omega)]
        · rw [up_n e, g2 q q0]
          by_cases e2 : 1052 + 13 * t ≤ q ∧ q < 1052 + 13 * t + k
          · rw [if_pos e2, if_pos (by omega)]
          · rw [if_neg e2, if_neg (by omega)]
set_option maxRecDepth 10000 in
theorem m_cutT (a : Int) (ha : 266 ≤ a ∧ a ≤ 268) {A : lg} (hR : Rw (v a) A) {t0 : Int} (hJ : gJ A t0) (t : Int) (h0 : 0 ≤ t) (h1 : t < gT A) : mv_Cl sc q_Mod_cutTemplate [(2, a), (0, t)] c (mH h v) (fun r c' h' => r = (3, 0) ∧ c' = c ∧ ∃ w, h' = mH h w ∧ mq a v w ∧ Rw (w a) (gdropT A t)) := by
  have b1 := hJ.1
  have b2 := hJ.2.1
  have r0 := hR.1
  have r1 := hR.2.1
  have eP := fun (k : Int) (k0 : 0 ≤ k) (k1 : k < gn A) => (hR.2.2.1 k k0 k1).2
  show mv_Ev sc 159 0 [(2, a), (0, t), (5, 0)] [] c (mH h v) _
  have hK : (mv_m 159).1 = kc_Mod_cutTemplate := rfl
  refine e_step (pc' := 1) hK rfl rfl rfl ?_
  refine e_step (pc' := 2) hK rfl rfl rfl ?_
  refine e_step (pc' := 3) hK rfl rfl rfl ?_
  refine e_iald (pc' := 4) hK rfl (by simp (disch := omega) only [mH_t64, mH_r1, mH_r3, mH_r4, mH_r5, mH_r6, mH_r8, mH_r9, mH_r10, mH_r11, mH_r12, mH_r14, mH_i0, mH_i2, mH_i7, mH_i13, mH_i15, mH_t71, mH_t, mH_lr, mH_l65, mH_l69, mH_l70, mH_l71, mH_l72, mH_l73, mH_l74, mH_l75, mH_c, r1]) (by omega) (by (try simp (disch := omega) only [mH_t64, mH_r1, mH_r3, mH_r4, mH_r5, mH_r6, mH_r8, mH_r9, mH_r10, mH_r11, mH_r12, mH_r14, mH_i0, mH_i2, mH_i7, mH_i13, mH_i15, mH_t71, mH_t, mH_lr, mH_l65, mH_l69, mH_l70, mH_l71, mH_l72, mH_l73, mH_l74, mH_l75, mH_c, r1]); omega) rfl ?_
  try simp (disch := omega) only [mH_t64, mH_r1, mH_r3, mH_r4, mH_r5, mH_r6, mH_r8, mH_r9, mH_r10, mH_r11, mH_r12, mH_r14, mH_i0, mH_i2, mH_i7, mH_i13, mH_i15, mH_t71, mH_t, mH_lr, mH_l65, mH_l69, mH_l70, mH_l71, mH_l72, mH_l73, mH_l74, mH_l75, mH_c, r1]
  refine e_step (pc' := 5) hK rfl rfl rfl ?_
  refine e_step (pc' := 6) hK rfl rfl rfl ?_
  refine e_iast (pc' := 7) hK rfl (by simp (disch := omega) only [mH_t64, mH_r1, mH_r3, mH_r4, mH_r5, mH_r6, mH_r8, mH_r9, mH_r10, mH_r11, mH_r12, mH_r14, mH_i0, mH_i2, mH_i7, mH_i13, mH_i15, mH_t71, mH_t, mH_lr, mH_l65, mH_l69, mH_l70, mH_l71, mH_l72, mH_l73, mH_l74, mH_l75, mH_c, r1]) (by omega) (by (try simp (disch := omega) only [mH_t64, mH_r1, mH_r3, mH_r4, mH_r5, mH_r6, mH_r8, mH_r9, mH_r10, mH_r11, mH_r12, mH_r14, mH_i0, mH_i2, mH_i7, mH_i13, mH_i15, mH_t71, mH_t, mH_lr, mH_l65, mH_l69, mH_l70, mH_l71, mH_l72, mH_l73, mH_l74, mH_l75, mH_c, r1]); omega) rfl ?_
  simp (disch := omega) only [mW_0, mW_2, mW_7, mW_13, mW_15, mW_a, gu_s]
  refine e_step (pc' := 8) hK rfl rfl rfl ?_
  refine e_cRS1 (z := 119) (pc' := 11) hK rfl rfl rfl (Nat.le_of_ble_eq_true rfl) (Nat.le_of_ble_eq_true rfl) (m_tempAt t) (by decide) rfl ?_
  try simp (disch := omega) only [mH_t64, mH_r1, mH_r3, mH_r4, mH_r5, mH_r6, mH_r8, mH_r9, mH_r10, mH_r11, mH_r12, mH_r14, mH_i0, mH_i2, mH_i7, mH_i13, mH_i15, mH_t71, mH_t, mH_lr, mH_l65, mH_l69, mH_l70, mH_l71, mH_l72, mH_l73, mH_l74, mH_l75, mH_c, r1]
  refine e_step (pc' := 12) hK rfl rfl rfl ?_
  try simp only [List.set_cons_zero, List.set_cons_succ]
  rw [show (1052 + 13 * t : Int) = 1052 + 13 * t + ((0 : Nat) : Int) from by omega]
  refine m_cutT1 a ha hR hJ t h0 h1 (13 * ((gT A : Int) - 1 - t)).toNat 0 _ ⟨by omega, fun b n1 => by rw [gu_n n1], by rw [gu_s, up_s], fun q q0 q1 => by rw [gu_s, up_n q1], fun q q0 => ?_⟩
  rw [gu_s, up_n (by omega), if_neg (by omega)]
set_option maxRecDepth 10000 in
theorem m_remOn1 (a : Int) (ha : 266 ≤ a ∧ a ≤ 268) {A : lg} (hR : Rw (v a) A) (hI : gI A) (i : Int) (hi0 : 0 ≤ i) (hi1 : i < gn A) : ∀ (m : Nat) (k : Nat) (w : mvt), (2 + 42 * i + k + m = 2 + 42 * ((gn A : Int) - 1) ∧ mq a v w ∧ w a 0 = (gn A : Int) - 1 ∧ w a 1 = gT A ∧ (∀ q : Int, 1052 ≤ q → w a q = v a q) ∧ ∀ q : Int, 2 ≤ q → w a q = if 2 + 42 * i ≤ q ∧ q < 2 + 42 * i + k then v a (q + 42) else v a q) → mv_Ev sc 158 21 [(2, a), (0, i), (0, gP A i), (0, 2 + 42 * i + (k : Int))] [] c (mH h w) (fun r c' h' => r = (0, (gT (gdrop A i) : Int)) ∧ c' = c ∧ ∃ w, h' = mH h w ∧ mq a v w ∧ Rw (w a) (gdrop A i)) := by
  intro m
  induction m with
  | zero =>
    intro k w ⟨hk, hw, w0, w1, g1, g2⟩
    have b1 := hI.1
    have b2 := hI.2.1
    have r0 := hR.1
    have r1 := hR.2.1
    have hP := gP_b hI hi0 hi1
    have hK : (mv_m 158).1 = kc_Mod_removeOn := rfl
    refine e_step (pc' := 22) hK rfl rfl rfl ?_
    refine e_step (pc' := 23) hK rfl rfl rfl ?_
    refine e_step (pc' := 24) hK rfl rfl rfl ?_
    refine e_iald (pc' := 25) hK rfl (by simp (disch := omega) only [mH_t64, mH_r1, mH_r3, mH_r4, mH_r5, mH_r6, mH_r8, mH_r9, mH_r10, mH_r11, mH_r12, mH_r14, mH_i0, mH_i2, mH_i7, mH_i13, mH_i15, mH_t71, mH_t, mH_lr, mH_l65, mH_l69, mH_l70, mH_l71, mH_l72, mH_l73, mH_l74, mH_l75, mH_c, w0]) (by omega) (by (try simp (disch := omega) only [mH_t64, mH_r1, mH_r3, mH_r4, mH_r5, mH_r6, mH_r8, mH_r9, mH_r10, mH_r11, mH_r12, mH_r14, mH_i0, mH_i2, mH_i7, mH_i13, mH_i15, mH_t71, mH_t, mH_lr, mH_l65, mH_l69, mH_l70, mH_l71, mH_l72, mH_l73, mH_l74, mH_l75, mH_c, w0]); omega) rfl ?_
    try simp (disch := omega) only [mH_t64, mH_r1, mH_r3, mH_r4, mH_r5, mH_r6, mH_r8, mH_r9, mH_r10, mH_r11, mH_r12, mH_r14, mH_i0, mH_i2, mH_i7, mH_i13, mH_i15, mH_t71, mH_t, mH_lr, mH_l65, mH_l69, mH_l70, mH_l71, mH_l72, mH_l73, mH_l74, mH_l75, mH_c, w0]
    refine e_cRS1 (z := 116) (pc' := 28) hK rfl rfl rfl (Nat.le_of_ble_eq_true rfl) (Nat.le_of_ble_eq_true rfl) (m_lineAt ((gn A : Int) - 1)) (by decide) rfl ?_
    try simp (disch := omega) only [mH_t64, mH_r1, mH_r3, mH_r4, mH_r5, mH_r6, mH_r8, mH_r9, mH_r10, mH_r11, mH_r12, mH_r14, mH_i0, mH_i2, mH_i7, mH_i13, mH_i15, mH_t71, mH_t, mH_lr, mH_l65, mH_l69, mH_l70, mH_l71, mH_l72, mH_l73, mH_l74, mH_l75, mH_c, w0]
    refine e_icmp (t := 46) (pc' := 31) hK rfl (by omega) (by omega) (by decide) rfl (fun hb28 => ?_) (fun hb28 => ?_)
    · replace hb28 := cq_ge.1.mp hb28
      have hRd : Rw (w a) (gdrop1 A i) := by
        refine Rw_drop1 hR hI hi0 hi1 w0 w1 (fun j j0 j1 q q0 q1 => ?_) (fun q q0 => g1 q q0)
        rw [g2 _ (by omega)]
        by_cases e : j < i
        · rw [if_pos e, if_neg (by omega)]
        · rw [if_neg e, if_pos (by omega), show 2 + 42 * j + q + 42 = 2 + 42 * (j + 1) + q from by omega]
      have hJd := gJ_drop1 hI hi0 hi1
      have eP : gP (gdrop1 A i) = fun k => if k < i then gP A k else gP A (k + 1) := rfl
      have b0 : gn (gdrop1 A i) ≤ 24 ∧ ∀ k : Int, 0 ≤ k → k < gn (gdrop1 A i) → 0 ≤ gP (gdrop1 A i) k ∧ gP (gdrop1 A i) k < 13 := ⟨by show gn A - 1 ≤ 24; omega, fun k k0 k1 => by have := hJd.2.2.1 k k0 k1; have b9 := hJd.2.1; omega⟩
      have hcb := lc_b (q := fun k => decide (gP (gdrop1 A i) k = gP A i)) ((gn A : Int) - 1).toNat
      have gdE : gdrop A i = if lf (fun k => decide (gP (gdrop1 A i) k = gP A i)) (gn (gdrop1 A i)) = -9999 then gdropT (gdrop1 A i) (gP A i) else gdrop1 A i := if_pos ⟨hi0, hi1⟩
      have elc : ((gn A : Int) - 1).toNat = gn (gdrop1 A i) := by { show _ = gn A - 1; omega }
      refine e_step (pc' := 47) hK rfl rfl rfl ?_
      refine e_step (pc' := 48) hK rfl rfl rfl ?_
      refine e_step (pc' := 49) hK rfl rfl rfl ?_
      refine e_step (pc' := 50) hK rfl rfl rfl ?_
      refine e_iald (pc' := 51) hK rfl (by simp (disch := omega) only [mH_t64, mH_r1, mH_r3, mH_r4, mH_r5, mH_r6, mH_r8, mH_r9, mH_r10, mH_r11, mH_r12, mH_r14, mH_i0, mH_i2, mH_i7, mH_i13, mH_i15, mH_t71, mH_t, mH_lr, mH_l65, mH_l69, mH_l70, mH_l71, mH_l72, mH_l73, mH_l74, mH_l75, mH_c, w0]) (by omega) (by (try simp (disch := omega) only [mH_t64, mH_r1, mH_r3, mH_r4, mH_r5, mH_r6, mH_r8, mH_r9, mH_r10, mH_r11, mH_r12, mH_r14, mH_i0, mH_i2, mH_i7, mH_i13, mH_i15, mH_t71, mH_t, mH_lr, mH_l65, mH_l69, mH_l70, mH_l71, mH_l72, mH_l73, mH_l74, mH_l75, mH_c, w0]); omega) rfl ?_
      try simp (disch := omega) only [mH_t64, mH_r1, mH_r3, mH_r4, mH_r5, mH_r6, mH_r8, mH_r9, mH_r10, mH_r11, mH_r12, mH_r14, mH_i0, mH_i2, mH_i7, mH_i13, mH_i15, mH_t71, mH_t, mH_lr, mH_l65, mH_l69, mH_l70, mH_l71, mH_l72, mH_l73, mH_l74, mH_l75, mH_c, w0]
      refine e_cRS3 (z := 135) (pc' := 54) hK rfl rfl rfl (Nat.le_of_ble_eq_true rfl) (Nat.le_of_ble_eq_true rfl) (m_linesOfX a ha hRd b0 (gP A i) (by omega) ((gn A : Int) - 1) (by omega) (by show (gn A : Int) - 1 ≤ ((gn A - 1 : Nat) : Int); omega)) (by decide) rfl ?_
      try simp (disch := omega) only [mH_t64, mH_r1, mH_r3, mH_r4, mH_r5, mH_r6, mH_r8, mH_r9, mH_r10, mH_r11, mH_r12, mH_r14, mH_i0, mH_i2, mH_i7, mH_i13, mH_i15, mH_t71, mH_t, mH_lr, mH_l65, mH_l69, mH_l70, mH_l71, mH_l72, mH_l73, mH_l74, mH_l75, mH_c, w0]
      refine e_if (t := 62) (pc' := 57) hK rfl (by omega) (by decide) rfl (fun hb54 => ?_) (fun hb54 => ?_)
      · replace hb54 := cq_ne.1.mp hb54
        have hz : gdrop A i = gdrop1 A i := by { rw [gdE, if_neg]; intro e; exact hb54 (lc_0 (fun k hk => lf_none e k (by rw [← elc]; exact hk))) }
        refine e_step (pc' := 63) hK rfl rfl rfl ?_
        refine e_step (pc' := 64) hK rfl rfl rfl ?_
        refine e_iald (pc' := 65) hK rfl (by simp (disch := omega) only [mH_t64, mH_r1, mH_r3, mH_r4, mH_r5, mH_r6, mH_r8, mH_r9, mH_r10, mH_r11, mH_r12, mH_r14, mH_i0, mH_i2, mH_i7, mH_i13, mH_i15, mH_t71, mH_t, mH_lr, mH_l65, mH_l69, mH_l70, mH_l71, mH_l72, mH_l73, mH_l74, mH_l75, mH_c, w0]) (by omega) (by (try simp (disch := omega) only [mH_t64, mH_r1, mH_r3, mH_r4, mH_r5, mH_r6, mH_r8, mH_r9, mH_r10, mH_r11, mH_r12, mH_r14, mH_i0, mH_i2, mH_i7, mH_i13, mH_i15, mH_t71, mH_t, mH_lr, mH_l65, mH_l69, mH_l70, mH_l71, mH_l72, mH_l73, mH_l74, mH_l75, mH_c, w0]); omega) rfl ?_
        try simp (disch := omega) only [mH_t64, mH_r1, mH_r3, mH_r4, mH_r5, mH_r6, mH_r8, mH_r9, mH_r10, mH_r11, mH_r12, mH_r14, mH_i0, mH_i2, mH_i7, mH_i13, mH_i15, mH_t71, mH_t, mH_lr, mH_l65, mH_l69, mH_l70, mH_l71, mH_l72, mH_l73, mH_l74, mH_l75, mH_c, w0]
        refine e_ret hK rfl rfl rfl ?_
        rw [hz]
        exact ⟨by { show (0, w a 1) = (0, (gT A : Int)); rw [w1] }, rfl, w, rfl, hw, hRd⟩
      · replace hb54 := cq_ne.2.mp hb54
        have hz : gdrop A i = gdropT (gdrop1 A i) (gP A i) := by { rw [gdE, if_pos]; refine lf_n (fun k hk => ?_); have := lc_z (hb54) k (by rw [elc]; exact hk); exact this }
        refine e_step (pc' := 58) hK rfl rfl rfl ?_
        refine e_step (pc' := 59) hK rfl rfl rfl ?_
        refine e_cQS2 (z := 159) hK rfl rfl rfl (Nat.le_of_ble_eq_true rfl) (Nat.le_of_ble_eq_true rfl) (m_cutT a ha hRd hJd (gP A i) hP.1 hP.2.1) ?_
        rintro _ _ _ ⟨rfl, rfl, u, rfl, hu, ru⟩
        refine ⟨by decide, ?_⟩
        rw [if_pos rfl]
        try dsimp only
        have u1 := ru.2.1
        show mv_Ev _ _ 62 _ _ _ _ _
        refine e_step (pc' := 63) hK rfl rfl rfl ?_
        refine e_step (pc' := 64) hK rfl rfl rfl ?_
        refine e_iald (pc' := 65) hK rfl (by simp (disch := omega) only [mH_t64, mH_r1, mH_r3, mH_r4, mH_r5, mH_r6, mH_r8, mH_r9, mH_r10, mH_r11, mH_r12, mH_r14, mH_i0, mH_i2, mH_i7, mH_i13, mH_i15, mH_t71, mH_t, mH_lr, mH_l65, mH_l69, mH_l70, mH_l71, mH_l72, mH_l73, mH_l74, mH_l75, mH_c, w0, u1]) (by omega) (by (try simp (disch := omega) only [mH_t64, mH_r1, mH_r3, mH_r4, mH_r5, mH_r6, mH_r8, mH_r9, mH_r10, mH_r11, mH_r12, mH_r14, mH_i0, mH_i2, mH_i7, mH_i13, mH_i15, mH_t71, mH_t, mH_lr, mH_l65, mH_l69, mH_l70, mH_l71, mH_l72, mH_l73, mH_l74, mH_l75, mH_c, w0, u1]); omega) rfl ?_
        try simp (disch := omega) only [mH_t64, mH_r1, mH_r3, mH_r4, mH_r5, mH_r6, mH_r8, mH_r9, mH_r10, mH_r11, mH_r12, mH_r14, mH_i0, mH_i2, mH_i7, mH_i13, mH_i15, mH_t71, mH_t, mH_lr, mH_l65, mH_l69, mH_l70, mH_l71, mH_l72, mH_l73, mH_l74, mH_l75, mH_c, w0, u1]
        refine e_ret hK rfl rfl rfl ?_
        rw [hz]
        exact ⟨rfl, rfl, u, rfl, fun b n1 => (hu b n1).trans (hw b n1), ru⟩
    · replace hb28 := cq_ge.2.mp hb28
      exfalso; first | omega | exact absurd trivial (by assumption)
  | succ m ih =>
    intro k w ⟨hk, hw, w0, w1, g1, g2⟩
    have b1 := hI.1
    have b2 := hI.2.1
    have r0 := hR.1
    have r1 := hR.2.1
    have hP := gP_b hI hi0 hi1
    have hK : (mv_m 158).1 = kc_Mod_removeOn := rfl
    refine e_step (pc' := 22) hK rfl rfl rfl ?_
    refine e_step (pc' := 23) hK rfl rfl rfl ?_
    refine e_step (pc' := 24) hK rfl rfl rfl ?_
    refine e_iald (pc' := 25) hK rfl (by simp (disch := omega) only [mH_t64, mH_r1, mH_r3, mH_r4, mH_r5, mH_r6, mH_r8, mH_r9, mH_r10, mH_r11, mH_r12, mH_r14, mH_i0, mH_i2, mH_i7, mH_i13, mH_i15, mH_t71, mH_t, mH_lr, mH_l65, mH_l69, mH_l70, mH_l71, mH_l72, mH_l73, mH_l74, mH_l75, mH_c, w0]) (by omega) (by (try simp (disch := omega) only [mH_t64, mH_r1, mH_r3, mH_r4, mH_r5, mH_r6, mH_r8, mH_r9, mH_r10, mH_r11, mH_r12, mH_r14, mH_i0, mH_i2, mH_i7, mH_i13, mH_i15, mH_t71, mH_t, mH_lr, mH_l65, mH_l69, mH_l70, mH_l71, mH_l72, mH_l73, mH_l74, mH_l75, mH_c, w0]); omega) rfl ?_
    try simp (disch := omega) only [mH_t64, mH_r1, mH_r3, mH_r4, mH_r5, mH_r6, mH_r8, mH_r9, mH_r10, mH_r11, mH_r12, mH_r14, mH_i0, mH_i2, mH_i7, mH_i13, mH_i15, mH_t71, mH_t, mH_lr, mH_l65, mH_l69, mH_l70, mH_l71, mH_l72, mH_l73, mH_l74, mH_l75, mH_c, w0]
    refine e_cRS1 (z := 116) (pc' := 28) hK rfl rfl rfl (Nat.le_of_ble_eq_true rfl) (Nat.le_of_ble_eq_true rfl) (m_lineAt ((gn A : Int) - 1)) (by decide) rfl ?_
    try simp (disch := omega) only [mH_t64, mH_r1, mH_r3, mH_r4, mH_r5, mH_r6, mH_r8, mH_r9, mH_r10, mH_r11, mH_r12, mH_r14, mH_i0, mH_i2, mH_i7, mH_i13, mH_i15, mH_t71, mH_t, mH_lr, mH_l65, mH_l69, mH_l70, mH_l71, mH_l72, mH_l73, mH_l74, mH_l75, mH_c, w0]
    refine e_icmp (t := 46) (pc' := 31) hK rfl (by omega) (by omega) (by decide) rfl (fun hb28 => ?_) (fun hb28 => ?_)
    · replace hb28 := cq_ge.1.mp hb28
      exfalso; first | omega | exact absurd trivial (by assumption)
    · replace hb28 := cq_ge.2.mp hb28
      refine e_step (pc' := 32) hK rfl rfl rfl ?_
      refine e_step (pc' := 33) hK rfl rfl rfl ?_
      refine e_step (pc' := 34) hK rfl rfl rfl ?_
      refine e_step (pc' := 35) hK rfl rfl rfl ?_
      refine e_step (pc' := 37) hK rfl rfl rfl ?_
      refine e_step (pc' := 38) hK rfl rfl rfl ?_
      refine e_iald (pc' := 39) hK rfl (by simp (disch := omega) only [mH_t64, mH_r1, mH_r3, mH_r4, mH_r5, mH_r6, mH_r8, mH_r9, mH_r10, mH_r11, mH_r12, mH_r14, mH_i0, mH_i2, mH_i7, mH_i13, mH_i15, mH_t71, mH_t, mH_lr, mH_l65, mH_l69, mH_l70, mH_l71, mH_l72, mH_l73, mH_l74, mH_l75, mH_c, w0]) (by omega) (by (try simp (disch := omega) only [mH_t64, mH_r1, mH_r3, mH_r4, mH_r5, mH_r6, mH_r8, mH_r9, mH_r10, mH_r11, mH_r12, mH_r14, mH_i0, mH_i2, mH_i7, mH_i13, mH_i15, mH_t71, mH_t, mH_lr, mH_l65, mH_l69, mH_l70, mH_l71, mH_l72, mH_l73, mH_l74, mH_l75, mH_c, w0]); omega) rfl ?_
      try simp (disch := omega) only [mH_t64, mH_r1, mH_r3, mH_r4, mH_r5, mH_r6, mH_r8, mH_r9, mH_r10, mH_r11, mH_r12, mH_r14, mH_i0, mH_i2, mH_i7, mH_i13, mH_i15, mH_t71, mH_t, mH_lr, mH_l65, mH_l69, mH_l70, mH_l71, mH_l72, mH_l73, mH_l74, mH_l75, mH_c, w0]
      refine e_iast (pc' := 40) hK rfl (by simp (disch := omega) only [mH_t64, mH_r1, mH_r3, mH_r4, mH_r5, mH_r6, mH_r8, mH_r9, mH_r10, mH_r11, mH_r12, mH_r14, mH_i0, mH_i2, mH_i7, mH_i13, mH_i15, mH_t71, mH_t, mH_lr, mH_l65, mH_l69, mH_l70, mH_l71, mH_l72, mH_l73, mH_l74, mH_l75, mH_c, w0]) (by omega) (by (try simp (disch := omega) only [mH_t64, mH_r1, mH_r3, mH_r4, mH_r5, mH_r6, mH_r8, mH_r9, mH_r10, mH_r11, mH_r12, mH_r14, mH_i0, mH_i2, mH_i7, mH_i13, mH_i15, mH_t71, mH_t, mH_lr, mH_l65, mH_l69, mH_l70, mH_l71, mH_l72, mH_l73, mH_l74, mH_l75, mH_c, w0]); omega) rfl ?_
      simp (disch := omega) only [mW_0, mW_2, mW_7, mW_13, mW_15, mW_a, gu_s]
      refine e_step (pc' := 43) hK rfl rfl rfl ?_
      try simp only [List.set_cons_zero, List.set_cons_succ]
      refine e_goto (t := 21) hK rfl (by decide) ?_
      rw [show (2 + 42 * i + (k : Int) + 1 : Int) = 2 + 42 * i + ((k + 1 : Nat) : Int) from by omega]
      refine ih (k + 1) _ ⟨by omega, fun b n1 => by rw [gu_n n1]; exact hw b n1, ?_, ?_, fun q q0 => ?_, fun q q0 => ?_⟩
      · rw [gu_s, up_n (by omega)]; exact w0
      · rw [gu_s, up_n (by omega)]; exact w1
      · rw [gu_s, up_n (by omega)]; exact g1 q q0
      · rw [gu_s]
        by_cases e : q = 2 + 42 * i + k
        · rw [e, up_s, if_pos (by omega), g2 _ (by omega), if_neg (by omega)]
        · rw [up_n e, g2 q q0]
          by_cases e2 : 2 + 42 * i ≤ q ∧ q < 2 + 42 * i + k
          · rw [if_pos e2, if_pos (by omega)]
          · rw [if_neg e2, if_neg (by omega)]
set_option maxRecDepth 10000 in
theorem m_removeOn (a : Int) (ha : 266 ≤ a ∧ a ≤ 268) {A : lg} (hR : Rw (v a) A) (hI : gI A) (i : Int) (hi0 : 0 ≤ i) (hi1 : i < gn A) : mv_Cl sc q_Mod_removeOn [(2, a), (0, i)] c (mH h v) (fun r c' h' => r = (0, (gT (gdrop A i) : Int)) ∧ c' = c ∧ ∃ w, h' = mH h w ∧ mq a v w ∧ Rw (w a) (gdrop A i)) := by
  have b1 := hI.1
  have b2 := hI.2.1
  have r0 := hR.1
  have r1 := hR.2.1
  have rP := (hR.2.2.1 i hi0 hi1).2
  show mv_Ev sc 158 0 [(2, a), (0, i), (5, 0), (5, 0)] [] c (mH h v) _
  have hK : (mv_m 158).1 = kc_Mod_removeOn := rfl
  refine e_step (pc' := 1) hK rfl rfl rfl ?_
  refine e_step (pc' := 2) hK rfl rfl rfl ?_
  refine e_cRS1 (z := 116) (pc' := 5) hK rfl rfl rfl (Nat.le_of_ble_eq_true rfl) (Nat.le_of_ble_eq_true rfl) (m_lineAt i) (by decide) rfl ?_
  try simp (disch := omega) only [mH_t64, mH_r1, mH_r3, mH_r4, mH_r5, mH_r6, mH_r8, mH_r9, mH_r10, mH_r11, mH_r12, mH_r14, mH_i0, mH_i2, mH_i7, mH_i13, mH_i15, mH_t71, mH_t, mH_lr, mH_l65, mH_l69, mH_l70, mH_l71, mH_l72, mH_l73, mH_l74, mH_l75, mH_c, r0, rP]
  refine e_step (pc' := 6) hK rfl rfl rfl ?_
  refine e_step (pc' := 7) hK rfl rfl rfl ?_
  refine e_iald (pc' := 8) hK rfl (by simp (disch := omega) only [mH_t64, mH_r1, mH_r3, mH_r4, mH_r5, mH_r6, mH_r8, mH_r9, mH_r10, mH_r11, mH_r12, mH_r14, mH_i0, mH_i2, mH_i7, mH_i13, mH_i15, mH_t71, mH_t, mH_lr, mH_l65, mH_l69, mH_l70, mH_l71, mH_l72, mH_l73, mH_l74, mH_l75, mH_c, r0, rP]) (by omega) (by (try simp (disch := omega) only [mH_t64, mH_r1, mH_r3, mH_r4, mH_r5, mH_r6, mH_r8, mH_r9, mH_r10, mH_r11, mH_r12, mH_r14, mH_i0, mH_i2, mH_i7, mH_i13, mH_i15, mH_t71, mH_t, mH_lr, mH_l65, mH_l69, mH_l70, mH_l71, mH_l72, mH_l73, mH_l74, mH_l75, mH_c, r0, rP]); omega) rfl ?_
  try simp (disch := omega) only [mH_t64, mH_r1, mH_r3, mH_r4, mH_r5, mH_r6, mH_r8, mH_r9, mH_r10, mH_r11, mH_r12, mH_r14, mH_i0, mH_i2, mH_i7, mH_i13, mH_i15, mH_t71, mH_t, mH_lr, mH_l65, mH_l69, mH_l70, mH_l71, mH_l72, mH_l73, mH_l74, mH_l75, mH_c, r0, rP]
  refine e_step (pc' := 9) hK rfl rfl rfl ?_
  try simp only [List.set_cons_zero, List.set_cons_succ]
  refine e_step (pc' := 10) hK rfl rfl rfl ?_
  refine e_step (pc' := 11) hK rfl rfl rfl ?_
  refine e_step (pc' := 12) hK rfl rfl rfl ?_
  refine e_iald (pc' := 13) hK rfl (by simp (disch := omega) only [mH_t64, mH_r1, mH_r3, mH_r4, mH_r5, mH_r6, mH_r8, mH_r9, mH_r10, mH_r11, mH_r12, mH_r14, mH_i0, mH_i2, mH_i7, mH_i13, mH_i15, mH_t71, mH_t, mH_lr, mH_l65, mH_l69, mH_l70, mH_l71, mH_l72, mH_l73, mH_l74, mH_l75, mH_c, r0, rP]) (by omega) (by (try simp (disch := omega) only [mH_t64, mH_r1, mH_r3, mH_r4, mH_r5, mH_r6, mH_r8, mH_r9, mH_r10, mH_r11, mH_r12, mH_r14, mH_i0, mH_i2, mH_i7, mH_i13, mH_i15, mH_t71, mH_t, mH_lr, mH_l65, mH_l69, mH_l70, mH_l71, mH_l72, mH_l73, mH_l74, mH_l75, mH_c, r0, rP]); omega) rfl ?_
  try simp (disch := omega) only [mH_t64, mH_r1, mH_r3, mH_r4, mH_r5, mH_r6, mH_r8, mH_r9, mH_r10, mH_r11, mH_r12, mH_r14, mH_i0, mH_i2, mH_i7, mH_i13, mH_i15, mH_t71, mH_t, mH_lr, mH_l65, mH_l69, mH_l70, mH_l71, mH_l72, mH_l73, mH_l74, mH_l75, mH_c, r0, rP]
  refine e_step (pc' := 14) hK rfl rfl rfl ?_
  refine e_step (pc' := 15) hK rfl rfl rfl ?_
  refine e_iast (pc' := 16) hK rfl (by simp (disch := omega) only [mH_t64, mH_r1, mH_r3, mH_r4, mH_r5, mH_r6, mH_r8, mH_r9, mH_r10, mH_r11, mH_r12, mH_r14, mH_i0, mH_i2, mH_i7, mH_i13, mH_i15, mH_t71, mH_t, mH_lr, mH_l65, mH_l69, mH_l70, mH_l71, mH_l72, mH_l73, mH_l74, mH_l75, mH_c, r0, rP]) (by omega) (by (try simp (disch := omega) only [mH_t64, mH_r1, mH_r3, mH_r4, mH_r5, mH_r6, mH_r8, mH_r9, mH_r10, mH_r11, mH_r12, mH_r14, mH_i0, mH_i2, mH_i7, mH_i13, mH_i15, mH_t71, mH_t, mH_lr, mH_l65, mH_l69, mH_l70, mH_l71, mH_l72, mH_l73, mH_l74, mH_l75, mH_c, r0, rP]); omega) rfl ?_
  simp (disch := omega) only [mW_0, mW_2, mW_7, mW_13, mW_15, mW_a, gu_s]
  refine e_step (pc' := 17) hK rfl rfl rfl ?_
  refine e_cRS1 (z := 116) (pc' := 20) hK rfl rfl rfl (Nat.le_of_ble_eq_true rfl) (Nat.le_of_ble_eq_true rfl) (m_lineAt i) (by decide) rfl ?_
  try simp (disch := omega) only [mH_t64, mH_r1, mH_r3, mH_r4, mH_r5, mH_r6, mH_r8, mH_r9, mH_r10, mH_r11, mH_r12, mH_r14, mH_i0, mH_i2, mH_i7, mH_i13, mH_i15, mH_t71, mH_t, mH_lr, mH_l65, mH_l69, mH_l70, mH_l71, mH_l72, mH_l73, mH_l74, mH_l75, mH_c, r0, rP]
  refine e_step (pc' := 21) hK rfl rfl rfl ?_
  try simp only [List.set_cons_zero, List.set_cons_succ]
  rw [show (2 + 42 * i : Int) = 2 + 42 * i + ((0 : Nat) : Int) from by omega]
  refine m_remOn1 a ha hR hI i hi0 hi1 (42 * ((gn A : Int) - 1 - i)).toNat 0 _ ⟨by omega, fun b n1 => by rw [gu_n n1], by rw [gu_s, up_s], by rw [gu_s, up_n (by omega)]; exact r1, fun q q0 => by rw [gu_s, up_n (by omega)], fun q q0 => ?_⟩
  rw [gu_s, up_n (by omega), if_neg (by omega)]
end MN
