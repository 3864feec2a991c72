/-! the reference: laying, settling, copying (written by wip/whole/m48.py) -/
section MS
variable {sc : Int × (Int → Int)} {c : mv_C} {h : mv_H} {v : mvt}
set_option maxRecDepth 10000 in
theorem m_copy1 (fr fa to ta : Int) (hf : 266 ≤ fr ∧ fr ≤ 270) (ht : 266 ≤ to ∧ to ≤ 270) (hd : fr ≠ to) (fa0 : 0 ≤ fa) (ta0 : 0 ≤ ta) (lf : fa + 1221 ≤ md_l fr ∧ md_l fr ≤ 20000) (lt : ta + 1221 ≤ md_l to ∧ md_l to ≤ 20000) : ∀ (m : Nat) (k : Nat) (w : mvt), (k + m = 1221 ∧ mq to v w ∧ ∀ q : Int, w to q = if ta ≤ q ∧ q < ta + k then v fr (fa + (q - ta)) else v to q) → mv_Ev sc 151 3 [(2, fr), (0, fa), (2, to), (0, ta), (0, (k : Int))] [] c (mH h w) (fun r c' h' => r = (3, 0) ∧ c' = c ∧ ∃ w, h' = mH h w ∧ mq to v w ∧ ∀ q : Int, w to q = if ta ≤ q ∧ q < ta + 1221 then v fr (fa + (q - ta)) else v to q) := by
  intro m
  induction m with
  | zero =>
    intro k w ⟨hk, hw, hq⟩
    have ef : w fr = v fr := hw fr hd
    have hK : (mv_m 151).1 = kc_Mod_copyLog := rfl
    refine e_step (pc' := 5) hK rfl rfl rfl ?_
    refine e_step (pc' := 8) hK rfl rfl rfl ?_
    refine e_icmp (t := 29) (pc' := 11) hK rfl (by omega) (by omega) (by decide) rfl (fun hb8 => ?_) (fun hb8 => ?_)
    · replace hb8 := cq_ge.1.mp hb8
      refine e_ret hK rfl rfl rfl ?_
      refine ⟨rfl, rfl, w, rfl, hw, fun q => ?_⟩
      rw [hq q, show (k : Int) = 1221 from by omega]
    · replace hb8 := cq_ge.2.mp hb8
      exfalso; first | omega | exact absurd trivial (by assumption)
  | succ m ih =>
    intro k w ⟨hk, hw, hq⟩
    have ef : w fr = v fr := hw fr hd
    have hK : (mv_m 151).1 = kc_Mod_copyLog := rfl
    refine e_step (pc' := 5) hK rfl rfl rfl ?_
    refine e_step (pc' := 8) hK rfl rfl rfl ?_
    refine e_icmp (t := 29) (pc' := 11) hK rfl (by omega) (by omega) (by decide) rfl (fun hb8 => ?_) (fun hb8 => ?_)
    · replace hb8 := cq_ge.1.mp hb8
      exfalso; first | omega | exact absurd trivial (by assumption)
    · replace hb8 := cq_ge.2.mp hb8
      refine e_step (pc' := 12) hK rfl rfl rfl ?_
      refine e_step (pc' := 13) hK rfl rfl rfl ?_
      refine e_step (pc' := 15) hK rfl rfl rfl ?_
      refine e_step (pc' := 16) hK rfl rfl rfl ?_
      refine e_step (pc' := 17) hK rfl rfl rfl ?_
      refine e_step (pc' := 18) hK rfl rfl rfl ?_
      refine e_step (pc' := 20) hK rfl rfl rfl ?_
      refine e_step (pc' := 21) hK rfl rfl rfl ?_
      refine e_iald (pc' := 22) hK rfl (by simp (disch := omega) only [mH_t64, mH_r1, mH_r3, mH_r4, mH_r5, mH_r6, mH_r8, mH_r9, mH_r10, mH_r11, mH_r12, mH_r14, mH_i0, mH_i2, mH_i7, mH_i13, mH_i15, mH_t71, mH_t, mH_c, mH_l, ef]) (by omega) (by (try simp (disch := omega) only [mH_t64, mH_r1, mH_r3, mH_r4, mH_r5, mH_r6, mH_r8, mH_r9, mH_r10, mH_r11, mH_r12, mH_r14, mH_i0, mH_i2, mH_i7, mH_i13, mH_i15, mH_t71, mH_t, mH_c, mH_l, ef]); omega) rfl ?_
      try simp (disch := omega) only [mH_t64, mH_r1, mH_r3, mH_r4, mH_r5, mH_r6, mH_r8, mH_r9, mH_r10, mH_r11, mH_r12, mH_r14, mH_i0, mH_i2, mH_i7, mH_i13, mH_i15, mH_t71, mH_t, mH_c, mH_l, ef]
      refine e_iast (pc' := 23) hK rfl (by simp (disch := omega) only [mH_t64, mH_r1, mH_r3, mH_r4, mH_r5, mH_r6, mH_r8, mH_r9, mH_r10, mH_r11, mH_r12, mH_r14, mH_i0, mH_i2, mH_i7, mH_i13, mH_i15, mH_t71, mH_t, mH_c, mH_l, ef]) (by omega) (by (try simp (disch := omega) only [mH_t64, mH_r1, mH_r3, mH_r4, mH_r5, mH_r6, mH_r8, mH_r9, mH_r10, mH_r11, mH_r12, mH_r14, mH_i0, mH_i2, mH_i7, mH_i13, mH_i15, mH_t71, mH_t, mH_c, mH_l, ef]); omega) rfl ?_
      simp (disch := omega) only [mW_0, mW_2, mW_7, mW_13, mW_15, mW_a, gu_s]
      refine e_step (pc' := 26) hK rfl rfl rfl ?_
      try simp only [List.set_cons_zero, List.set_cons_succ]
      refine e_goto (t := 3) hK rfl (by decide) ?_
      refine ih (k + 1) _ ⟨by omega, fun b hb => by rw [gu_n hb]; exact hw b hb, fun q => ?_⟩
      rw [gu_s]
      by_cases e : q = ta + k
      · rw [e, up_s, if_pos (by omega), show ta + (k : Int) - ta = k from by omega]
      · rw [up_n e, hq q]
        by_cases e2 : ta ≤ q ∧ q < ta + k
        · rw [if_pos e2, if_pos (by omega)]
        · rw [if_neg e2, if_neg (by omega)]
set_option maxRecDepth 10000 in
theorem m_copyLog (fr fa to ta : Int) (hf : 266 ≤ fr ∧ fr ≤ 270) (ht : 266 ≤ to ∧ to ≤ 270) (hd : fr ≠ to) (fa0 : 0 ≤ fa) (ta0 : 0 ≤ ta) (lf : fa + 1221 ≤ md_l fr ∧ md_l fr ≤ 20000) (lt : ta + 1221 ≤ md_l to ∧ md_l to ≤ 20000) : mv_Cl sc q_Mod_copyLog [(2, fr), (0, fa), (2, to), (0, ta)] c (mH h v) (fun r c' h' => r = (3, 0) ∧ c' = c ∧ ∃ w, h' = mH h w ∧ mq to v w ∧ ∀ q : Int, w to q = if ta ≤ q ∧ q < ta + 1221 then v fr (fa + (q - ta)) else v to q) := by
  show mv_Ev sc 151 0 [(2, fr), (0, fa), (2, to), (0, ta), (5, 0)] [] c (mH h v) _
  have hK : (mv_m 151).1 = kc_Mod_copyLog := rfl
  refine e_step (pc' := 1) hK rfl rfl rfl ?_
  refine e_step (pc' := 3) hK rfl rfl rfl ?_
  try simp only [List.set_cons_zero, List.set_cons_succ]
  exact m_copy1 fr fa to ta hf ht hd fa0 ta0 lf lt 1221 0 v ⟨by omega, mq_r to v, fun q => by rw [if_neg (by omega)]⟩
set_option maxRecDepth 10000 in
theorem m_addT1 (a : Int) (ha : 266 ≤ a ∧ a ≤ 268) {A : lg} (hR : Rw (v a) A) (hI : gI A) {x : xt} (hx : xok x) (hl : Rl (v a) (gn A) x) (hn : gn A ≤ 24) (hT : gT A ≤ 12) (u : mvt) (hu : ms v u) (hp : ∀ p : Int, 0 ≤ p → p < xn x → u 274 p = xk x p) : ∀ (m : Nat) (k : Nat) (w : mvt), (k + m = (xn x).toNat ∧ mq a u w ∧ w a (1052 + 13 * (gT A : Int)) = xn x ∧ (∀ p : Int, 0 ≤ p → p < k → w a (1052 + 13 * (gT A : Int) + 1 + p) = xk x p) ∧ ∀ q : Int, (q < 1052 + 13 * (gT A : Int) ∨ 1052 + 13 * (gT A : Int) + 13 ≤ q) → w a q = v a q) → mv_Ev sc 153 24 [(2, 264), (2, a), (0, (gn A : Int)), (0, (gT A : Int)), (0, xn x), (0, (k : Int))] [] c (mH h w) (fun r c' h' => r = (3, 0) ∧ c' = c ∧ ∃ w, h' = mH h w ∧ mo a v w ∧ w a 1 = (gT A : Int) + 1 ∧ w a (1052 + 13 * (gT A : Int)) = xn x ∧ (∀ p : Int, 0 ≤ p → p < xn x → w a (1052 + 13 * (gT A : Int) + 1 + p) = xk x p) ∧ ∀ q : Int, q ≠ 1 → (q < 1052 + 13 * (gT A : Int) ∨ 1052 + 13 * (gT A : Int) + 13 ≤ q) → w a q = v a q) := by
  intro m
  induction m with
  | zero =>
    intro k w ⟨hk, hw, g1, g2, g3⟩
    have b1 := hI.1
    have b2 := hI.2.1
    have r0 := hR.1
    have r1 := hR.2.1
    have b3 := xn_b hx
    have w1 : w a 1 = gT A := (g3 1 (by omega)).trans r1
    have e74 : w 274 = u 274 := hw 274 (by omega)
    have hK : (mv_m 153).1 = kc_Mod_addTemplate := rfl
    refine e_step (pc' := 26) hK rfl rfl rfl ?_
    refine e_step (pc' := 28) hK rfl rfl rfl ?_
    refine e_icmp (t := 55) (pc' := 31) hK rfl (by omega) (by omega) (by decide) rfl (fun hb28 => ?_) (fun hb28 => ?_)
    · replace hb28 := cq_ge.1.mp hb28
      refine e_step (pc' := 56) hK rfl rfl rfl ?_
      refine e_step (pc' := 57) hK rfl rfl rfl ?_
      refine e_step (pc' := 58) hK rfl rfl rfl ?_
      refine e_iald (pc' := 59) hK rfl (by simp (disch := omega) only [mH_t64, mH_r1, mH_r3, mH_r4, mH_r5, mH_r6, mH_r8, mH_r9, mH_r10, mH_r11, mH_r12, mH_r14, mH_i0, mH_i2, mH_i7, mH_i13, mH_i15, mH_t71, mH_t, mH_lr, mH_l65, mH_l69, mH_l70, mH_l71, mH_l72, mH_l73, mH_l74, mH_l75, mH_c, w1, e74]) (by omega) (by (try simp (disch := omega) only [mH_t64, mH_r1, mH_r3, mH_r4, mH_r5, mH_r6, mH_r8, mH_r9, mH_r10, mH_r11, mH_r12, mH_r14, mH_i0, mH_i2, mH_i7, mH_i13, mH_i15, mH_t71, mH_t, mH_lr, mH_l65, mH_l69, mH_l70, mH_l71, mH_l72, mH_l73, mH_l74, mH_l75, mH_c, w1, e74]); omega) rfl ?_
      try simp (disch := omega) only [mH_t64, mH_r1, mH_r3, mH_r4, mH_r5, mH_r6, mH_r8, mH_r9, mH_r10, mH_r11, mH_r12, mH_r14, mH_i0, mH_i2, mH_i7, mH_i13, mH_i15, mH_t71, mH_t, mH_lr, mH_l65, mH_l69, mH_l70, mH_l71, mH_l72, mH_l73, mH_l74, mH_l75, mH_c, w1, e74]
      refine e_step (pc' := 60) hK rfl rfl rfl ?_
      refine e_step (pc' := 61) hK rfl rfl rfl ?_
      refine e_iast (pc' := 62) hK rfl (by simp (disch := omega) only [mH_t64, mH_r1, mH_r3, mH_r4, mH_r5, mH_r6, mH_r8, mH_r9, mH_r10, mH_r11, mH_r12, mH_r14, mH_i0, mH_i2, mH_i7, mH_i13, mH_i15, mH_t71, mH_t, mH_lr, mH_l65, mH_l69, mH_l70, mH_l71, mH_l72, mH_l73, mH_l74, mH_l75, mH_c, w1, e74]) (by omega) (by (try simp (disch := omega) only [mH_t64, mH_r1, mH_r3, mH_r4, mH_r5, mH_r6, mH_r8, mH_r9, mH_r10, mH_r11, mH_r12, mH_r14, mH_i0, mH_i2, mH_i7, mH_i13, mH_i15, mH_t71, mH_t, mH_lr, mH_l65, mH_l69, mH_l70, mH_l71, mH_l72, mH_l73, mH_l74, mH_l75, mH_c, w1, e74]); omega) rfl ?_
      simp (disch := omega) only [mW_0, mW_2, mW_7, mW_13, mW_15, mW_a, gu_s]
      refine e_ret hK rfl rfl rfl ?_
      refine ⟨rfl, rfl, _, rfl, fun b n1 n2 n3 n4 => by rw [gu_n n4, hw b n4]; exact hu b n1 n2 n3, ?_, ?_, fun p p0 p1 => ?_, fun q n1 n2 => ?_⟩
      · rw [gu_s, up_s]
      · rw [gu_s, up_n (by omega)]; exact g1
      · rw [gu_s, up_n (by omega)]; exact g2 p p0 (by omega)
      · rw [gu_s, up_n n1]; exact g3 q n2
    · replace hb28 := cq_ge.2.mp hb28
      exfalso; first | omega | exact absurd trivial (by assumption)
  | succ m ih =>
    intro k w ⟨hk, hw, g1, g2, g3⟩
    have b1 := hI.1
    have b2 := hI.2.1
    have r0 := hR.1
    have r1 := hR.2.1
    have b3 := xn_b hx
    have w1 : w a 1 = gT A := (g3 1 (by omega)).trans r1
    have e74 : w 274 = u 274 := hw 274 (by omega)
    have hK : (mv_m 153).1 = kc_Mod_addTemplate := rfl
    refine e_step (pc' := 26) hK rfl rfl rfl ?_
    refine e_step (pc' := 28) hK rfl rfl rfl ?_
    refine e_icmp (t := 55) (pc' := 31) hK rfl (by omega) (by omega) (by decide) rfl (fun hb28 => ?_) (fun hb28 => ?_)
    · replace hb28 := cq_ge.1.mp hb28
      exfalso; first | omega | exact absurd trivial (by assumption)
    · replace hb28 := cq_ge.2.mp hb28
      have zk := hp k (by omega) (by omega)
      refine e_step (pc' := 32) hK rfl rfl rfl ?_
      refine e_step (pc' := 33) hK rfl rfl rfl ?_
      refine e_cRS1 (z := 119) (pc' := 36) hK rfl rfl rfl (Nat.le_of_ble_eq_true rfl) (Nat.le_of_ble_eq_true rfl) (m_tempAt (gT A : Int)) (by decide) rfl ?_
      try simp (disch := omega) only [mH_t64, mH_r1, mH_r3, mH_r4, mH_r5, mH_r6, mH_r8, mH_r9, mH_r10, mH_r11, mH_r12, mH_r14, mH_i0, mH_i2, mH_i7, mH_i13, mH_i15, mH_t71, mH_t, mH_lr, mH_l65, mH_l69, mH_l70, mH_l71, mH_l72, mH_l73, mH_l74, mH_l75, mH_c, w1, e74, zk]
      refine e_step (pc' := 37) hK rfl rfl rfl ?_
      refine e_step (pc' := 38) hK rfl rfl rfl ?_
      refine e_step (pc' := 40) hK rfl rfl rfl ?_
      refine e_step (pc' := 41) hK rfl rfl rfl ?_
      refine e_step (pc' := 42) hK rfl rfl rfl ?_
      refine e_getR (ci := 4) (k := 12) (pc' := 45) hK rfl (by simp (disch := omega) only [mH_t64, mH_r1, mH_r3, mH_r4, mH_r5, mH_r6, mH_r8, mH_r9, mH_r10, mH_r11, mH_r12, mH_r14, mH_i0, mH_i2, mH_i7, mH_i13, mH_i15, mH_t71, mH_t, mH_lr, mH_l65, mH_l69, mH_l70, mH_l71, mH_l72, mH_l73, mH_l74, mH_l75, mH_c, w1, e74, zk]) rfl rfl (by decide) (by decide) (by (try simp (disch := omega) only [mH_t64, mH_r1, mH_r3, mH_r4, mH_r5, mH_r6, mH_r8, mH_r9, mH_r10, mH_r11, mH_r12, mH_r14, mH_i0, mH_i2, mH_i7, mH_i13, mH_i15, mH_t71, mH_t, mH_lr, mH_l65, mH_l69, mH_l70, mH_l71, mH_l72, mH_l73, mH_l74, mH_l75, mH_c, w1, e74, zk]); omega) rfl ?_
      try simp (disch := omega) only [mH_t64, mH_r1, mH_r3, mH_r4, mH_r5, mH_r6, mH_r8, mH_r9, mH_r10, mH_r11, mH_r12, mH_r14, mH_i0, mH_i2, mH_i7, mH_i13, mH_i15, mH_t71, mH_t, mH_lr, mH_l65, mH_l69, mH_l70, mH_l71, mH_l72, mH_l73, mH_l74, mH_l75, mH_c, w1, e74, zk]
      refine e_step (pc' := 47) hK rfl rfl rfl ?_
      refine e_iald (pc' := 48) hK rfl (by simp (disch := omega) only [mH_t64, mH_r1, mH_r3, mH_r4, mH_r5, mH_r6, mH_r8, mH_r9, mH_r10, mH_r11, mH_r12, mH_r14, mH_i0, mH_i2, mH_i7, mH_i13, mH_i15, mH_t71, mH_t, mH_lr, mH_l65, mH_l69, mH_l70, mH_l71, mH_l72, mH_l73, mH_l74, mH_l75, mH_c, w1, e74, zk]) (by omega) (by (try simp (disch := omega) only [mH_t64, mH_r1, mH_r3, mH_r4, mH_r5, mH_r6, mH_r8, mH_r9, mH_r10, mH_r11, mH_r12, mH_r14, mH_i0, mH_i2, mH_i7, mH_i13, mH_i15, mH_t71, mH_t, mH_lr, mH_l65, mH_l69, mH_l70, mH_l71, mH_l72, mH_l73, mH_l74, mH_l75, mH_c, w1, e74, zk]); omega) rfl ?_
      try simp (disch := omega) only [mH_t64, mH_r1, mH_r3, mH_r4, mH_r5, mH_r6, mH_r8, mH_r9, mH_r10, mH_r11, mH_r12, mH_r14, mH_i0, mH_i2, mH_i7, mH_i13, mH_i15, mH_t71, mH_t, mH_lr, mH_l65, mH_l69, mH_l70, mH_l71, mH_l72, mH_l73, mH_l74, mH_l75, mH_c, w1, e74, zk]
      refine e_iast (pc' := 49) hK rfl (by simp (disch := omega) only [mH_t64, mH_r1, mH_r3, mH_r4, mH_r5, mH_r6, mH_r8, mH_r9, mH_r10, mH_r11, mH_r12, mH_r14, mH_i0, mH_i2, mH_i7, mH_i13, mH_i15, mH_t71, mH_t, mH_lr, mH_l65, mH_l69, mH_l70, mH_l71, mH_l72, mH_l73, mH_l74, mH_l75, mH_c, w1, e74, zk]) (by omega) (by (try simp (disch := omega) only [mH_t64, mH_r1, mH_r3, mH_r4, mH_r5, mH_r6, mH_r8, mH_r9, mH_r10, mH_r11, mH_r12, mH_r14, mH_i0, mH_i2, mH_i7, mH_i13, mH_i15, mH_t71, mH_t, mH_lr, mH_l65, mH_l69, mH_l70, mH_l71, mH_l72, mH_l73, mH_l74, mH_l75, mH_c, w1, e74, zk]); omega) rfl ?_
      simp (disch := omega) only [mW_0, mW_2, mW_7, mW_13, mW_15, mW_a, gu_s]
      refine e_step (pc' := 52) hK rfl rfl rfl ?_
      try simp only [List.set_cons_zero, List.set_cons_succ]
      refine e_goto (t := 24) hK rfl (by decide) ?_
      refine ih (k + 1) _ ⟨by omega, fun b n1 => by rw [gu_n n1]; exact hw b n1, ?_, fun p p0 p1 => ?_, fun q n2 => ?_⟩
      · rw [gu_s, up_n (by omega)]; exact g1
      · rw [gu_s]
        by_cases e : p = k
        · rw [e, up_s]
        · rw [up_n (by omega)]; exact g2 p p0 (by omega)
      · rw [gu_s, up_n (by omega)]; exact g3 q n2
set_option maxRecDepth 10000 in
theorem m_addT (a : Int) (ha : 266 ≤ a ∧ a ≤ 268) {A : lg} (hR : Rw (v a) A) (hI : gI A) {x : xt} (hx : xok x) (hl : Rl (v a) (gn A) x) (hn : gn A ≤ 24) (hT : gT A ≤ 12) : mv_Cl sc q_Mod_addTemplate [(2, 264), (2, a), (0, (gn A : Int))] c (mH h v) (fun r c' h' => r = (3, 0) ∧ c' = c ∧ ∃ w, h' = mH h w ∧ mo a v w ∧ w a 1 = (gT A : Int) + 1 ∧ w a (1052 + 13 * (gT A : Int)) = xn x ∧ (∀ p : Int, 0 ≤ p → p < xn x → w a (1052 + 13 * (gT A : Int) + 1 + p) = xk x p) ∧ ∀ q : Int, q ≠ 1 → (q < 1052 + 13 * (gT A : Int) ∨ 1052 + 13 * (gT A : Int) + 13 ≤ q) → w a q = v a q) := by
  have b1 := hI.1
  have b2 := hI.2.1
  have r0 := hR.1
  have r1 := hR.2.1
  have b3 := xn_b hx
  show mv_Ev sc 153 0 [(2, 264), (2, a), (0, (gn A : Int)), (5, 0), (5, 0), (5, 0)] [] c (mH h v) _
  have hK : (mv_m 153).1 = kc_Mod_addTemplate := rfl
  refine e_step (pc' := 1) hK rfl rfl rfl ?_
  refine e_step (pc' := 2) hK rfl rfl rfl ?_
  refine e_iald (pc' := 3) hK rfl (by simp (disch := omega) only [mH_t64, mH_r1, mH_r3, mH_r4, mH_r5, mH_r6, mH_r8, mH_r9, mH_r10, mH_r11, mH_r12, mH_r14, mH_i0, mH_i2, mH_i7, mH_i13, mH_i15, mH_t71, mH_t, mH_lr, mH_l65, mH_l69, mH_l70, mH_l71, mH_l72, mH_l73, mH_l74, mH_l75, mH_c, r1]) (by omega) (by (try simp (disch := omega) only [mH_t64, mH_r1, mH_r3, mH_r4, mH_r5, mH_r6, mH_r8, mH_r9, mH_r10, mH_r11, mH_r12, mH_r14, mH_i0, mH_i2, mH_i7, mH_i13, mH_i15, mH_t71, mH_t, mH_lr, mH_l65, mH_l69, mH_l70, mH_l71, mH_l72, mH_l73, mH_l74, mH_l75, mH_c, r1]); omega) rfl ?_
  try simp (disch := omega) only [mH_t64, mH_r1, mH_r3, mH_r4, mH_r5, mH_r6, mH_r8, mH_r9, mH_r10, mH_r11, mH_r12, mH_r14, mH_i0, mH_i2, mH_i7, mH_i13, mH_i15, mH_t71, mH_t, mH_lr, mH_l65, mH_l69, mH_l70, mH_l71, mH_l72, mH_l73, mH_l74, mH_l75, mH_c, r1]
  refine e_step (pc' := 4) hK rfl rfl rfl ?_
  try simp only [List.set_cons_zero, List.set_cons_succ]
  refine e_step (pc' := 5) hK rfl rfl rfl ?_
  refine e_step (pc' := 6) hK rfl rfl rfl ?_
  refine e_step (pc' := 7) hK rfl rfl rfl ?_
  refine e_step (pc' := 8) hK rfl rfl rfl ?_
  refine e_cQV4 (z := 123) hK rfl rfl (by first | (simp (disch := omega) only [mH_t64, mH_r1, mH_r3, mH_r4, mH_r5, mH_r6, mH_r8, mH_r9, mH_r10, mH_r11, mH_r12, mH_r14, mH_i0, mH_i2, mH_i7, mH_i13, mH_i15, mH_t71, mH_t, mH_lr, mH_l65, mH_l69, mH_l70, mH_l71, mH_l72, mH_l73, mH_l74, mH_l75, mH_c, r1]; rfl) | (show _ = 2; assumption) | (show _ = 1; assumption) | (show _ = 0; assumption) | (show _ = 3; assumption) | (show _ = 4; assumption)) rfl (Nat.le_of_ble_eq_true rfl) (Nat.le_of_ble_eq_true rfl) (m_cut a ha (gn A) 0 ⟨by omega, by omega⟩ (Or.inl rfl) hx hl) ?_
  rintro _ _ _ ⟨rfl, rfl, u, rfl, hu, ku⟩
  refine ⟨by show (0 : Nat) ≠ 4; decide, ?_⟩
  rw [if_neg (by show ¬ (0 : Nat) = 3; decide)]
  try dsimp only
  have eu : u a = v a := hu.1 a (by omega) (by omega) (by omega)
  show mv_Ev _ _ 11 _ _ _ _ _
  refine e_step (pc' := 13) hK rfl rfl rfl ?_
  try simp only [List.set_cons_zero, List.set_cons_succ]
  refine e_step (pc' := 14) hK rfl rfl rfl ?_
  refine e_step (pc' := 15) hK rfl rfl rfl ?_
  refine e_cRS1 (z := 119) (pc' := 18) hK rfl rfl rfl (Nat.le_of_ble_eq_true rfl) (Nat.le_of_ble_eq_true rfl) (m_tempAt (gT A : Int)) (by decide) rfl ?_
  try simp (disch := omega) only [mH_t64, mH_r1, mH_r3, mH_r4, mH_r5, mH_r6, mH_r8, mH_r9, mH_r10, mH_r11, mH_r12, mH_r14, mH_i0, mH_i2, mH_i7, mH_i13, mH_i15, mH_t71, mH_t, mH_lr, mH_l65, mH_l69, mH_l70, mH_l71, mH_l72, mH_l73, mH_l74, mH_l75, mH_c, r1]
  refine e_step (pc' := 20) hK rfl rfl rfl ?_
  refine e_iast (pc' := 21) hK rfl (by simp (disch := omega) only [mH_t64, mH_r1, mH_r3, mH_r4, mH_r5, mH_r6, mH_r8, mH_r9, mH_r10, mH_r11, mH_r12, mH_r14, mH_i0, mH_i2, mH_i7, mH_i13, mH_i15, mH_t71, mH_t, mH_lr, mH_l65, mH_l69, mH_l70, mH_l71, mH_l72, mH_l73, mH_l74, mH_l75, mH_c, r1]) (by omega) (by (try simp (disch := omega) only [mH_t64, mH_r1, mH_r3, mH_r4, mH_r5, mH_r6, mH_r8, mH_r9, mH_r10, mH_r11, mH_r12, mH_r14, mH_i0, mH_i2, mH_i7, mH_i13, mH_i15, mH_t71, mH_t, mH_lr, mH_l65, mH_l69, mH_l70, mH_l71, mH_l72, mH_l73, mH_l74, mH_l75, mH_c, r1]); omega) rfl ?_
  simp (disch := omega) only [mW_0, mW_2, mW_7, mW_13, mW_15, mW_a, gu_s]
  refine e_step (pc' := 22) hK rfl rfl rfl ?_
  refine e_step (pc' := 24) hK rfl rfl rfl ?_
  try simp only [List.set_cons_zero, List.set_cons_succ]
  refine m_addT1 a ha hR hI hx hl hn hT u hu.1 (fun p p0 p1 => by { have := (Ct_x ku p0 p1).2.2; rw [Int.zero_add] at this; exact this }) (xn x).toNat 0 _ ⟨by omega, fun b n1 => by rw [gu_n n1], by rw [gu_s, up_s], fun p p0 p1 => by omega, fun q n2 => ?_⟩
  rw [gu_s, up_n (by omega), eu]
set_option maxRecDepth 10000 in
theorem m_settle (a : Int) (ha : 266 ≤ a ∧ a ≤ 268) {A : lg} (hR : Rw (v a) A) (hI : gI A) {x : xt} (hx : xok x) (hl : Rl (v a) (gn A) x) (hn : gn A ≤ 24) (hT : gT A ≤ 12) : mv_Cl sc q_Mod_settle [(2, 264), (2, a)] c (mH h v) (fun r c' h' => r = (0, gnw A x) ∧ c' = c ∧ ∃ w, h' = mH h w ∧ mo a v w ∧ Rw (w a) (gpu A x (gnw A x))) := by
  have b1 := hI.1
  have b2 := hI.2.1
  have r0 := hR.1
  have r1 := hR.2.1
  have b3 := xn_b hx
  have gb := gff_b A x
  show mv_Ev sc 152 0 [(2, 264), (2, a), (5, 0), (5, 0)] [] c (mH h v) _
  have hK : (mv_m 152).1 = kc_Mod_settle := rfl
  refine e_step (pc' := 1) hK rfl rfl rfl ?_
  refine e_step (pc' := 2) hK rfl rfl rfl ?_
  refine e_iald (pc' := 3) hK rfl (by simp (disch := omega) only [mH_t64, mH_r1, mH_r3, mH_r4, mH_r5, mH_r6, mH_r8, mH_r9, mH_r10, mH_r11, mH_r12, mH_r14, mH_i0, mH_i2, mH_i7, mH_i13, mH_i15, mH_t71, mH_t, mH_lr, mH_l65, mH_l69, mH_l70, mH_l71, mH_l72, mH_l73, mH_l74, mH_l75, mH_c, r0, r1, up_n]) (by omega) (by (try simp (disch := omega) only [mH_t64, mH_r1, mH_r3, mH_r4, mH_r5, mH_r6, mH_r8, mH_r9, mH_r10, mH_r11, mH_r12, mH_r14, mH_i0, mH_i2, mH_i7, mH_i13, mH_i15, mH_t71, mH_t, mH_lr, mH_l65, mH_l69, mH_l70, mH_l71, mH_l72, mH_l73, mH_l74, mH_l75, mH_c, r0, r1, up_n]); omega) rfl ?_
  try simp (disch := omega) only [mH_t64, mH_r1, mH_r3, mH_r4, mH_r5, mH_r6, mH_r8, mH_r9, mH_r10, mH_r11, mH_r12, mH_r14, mH_i0, mH_i2, mH_i7, mH_i13, mH_i15, mH_t71, mH_t, mH_lr, mH_l65, mH_l69, mH_l70, mH_l71, mH_l72, mH_l73, mH_l74, mH_l75, mH_c, r0, r1, up_n]
  refine e_step (pc' := 4) hK rfl rfl rfl ?_
  try simp only [List.set_cons_zero, List.set_cons_succ]
  refine e_step (pc' := 5) hK rfl rfl rfl ?_
  refine e_step (pc' := 6) hK rfl rfl rfl ?_
  refine e_step (pc' := 7) hK rfl rfl rfl ?_
  refine e_cQV3 (z := 148) hK rfl rfl (by first | (simp (disch := omega) only [mH_t64, mH_r1, mH_r3, mH_r4, mH_r5, mH_r6, mH_r8, mH_r9, mH_r10, mH_r11, mH_r12, mH_r14, mH_i0, mH_i2, mH_i7, mH_i13, mH_i15, mH_t71, mH_t, mH_lr, mH_l65, mH_l69, mH_l70, mH_l71, mH_l72, mH_l73, mH_l74, mH_l75, mH_c, r0, r1, up_n]; rfl) | (show _ = 2; assumption) | (show _ = 1; assumption) | (show _ = 0; assumption) | (show _ = 3; assumption) | (show _ = 4; assumption)) rfl (Nat.le_of_ble_eq_true rfl) (Nat.le_of_ble_eq_true rfl) (m_tempFor a ha hR hI (gn A) ⟨by omega, by omega⟩ hx hl) ?_
  rintro _ _ _ ⟨rfl, rfl, w, rfl, hw⟩
  refine ⟨by show (0 : Nat) ≠ 4; decide, ?_⟩
  rw [if_neg (by show ¬ (0 : Nat) = 3; decide)]
  try dsimp only
  have ew : w a = v a := hw a (by omega) (by omega) (by omega)
  show mv_Ev _ _ 10 _ _ _ _ _
  refine e_step (pc' := 11) hK rfl rfl rfl ?_
  try simp only [List.set_cons_zero, List.set_cons_succ]
  refine e_step (pc' := 12) hK rfl rfl rfl ?_
  refine e_step (pc' := 15) hK rfl rfl rfl ?_
  refine e_icmp (t := 28) (pc' := 18) hK rfl (by omega) (by omega) (by decide) rfl (fun hb15 => ?_) (fun hb15 => ?_)
  · replace hb15 := cq_ne.1.mp hb15
    have q1 : w a 1 = if gff A x = -9999 then (gT A : Int) + 1 else gT A := by { rw [ew, r1, if_neg hb15] }
    have qo : ∀ q : Int, q ≠ 1 → (q < 1052 + 13 * (gT A : Int) ∨ 1052 + 13 * (gT A : Int) + 13 ≤ q) → w a q = v a q := fun q _ _ => by rw [ew]
    have qn : gff A x = -9999 → w a (1052 + 13 * (gT A : Int)) = xn x ∧ ∀ p : Int, 0 ≤ p → p < xn x → w a (1052 + 13 * (gT A : Int) + 1 + p) = xk x p := fun e => absurd e hb15
    have nn : gff A x = gnw A x := ((gnw_b A x).2.2.2 hb15).1.symm
    refine e_step (pc' := 29) hK rfl rfl rfl ?_
    refine e_step (pc' := 30) hK rfl rfl rfl ?_
    refine e_cRS1 (z := 116) (pc' := 33) hK rfl rfl rfl (Nat.le_of_ble_eq_true rfl) (Nat.le_of_ble_eq_true rfl) (m_lineAt (gn A : Int)) (by decide) rfl ?_
    try simp (disch := omega) only [mH_t64, mH_r1, mH_r3, mH_r4, mH_r5, mH_r6, mH_r8, mH_r9, mH_r10, mH_r11, mH_r12, mH_r14, mH_i0, mH_i2, mH_i7, mH_i13, mH_i15, mH_t71, mH_t, mH_lr, mH_l65, mH_l69, mH_l70, mH_l71, mH_l72, mH_l73, mH_l74, mH_l75, mH_c, r0, r1, up_n, ew]
    refine e_step (pc' := 34) hK rfl rfl rfl ?_
    refine e_step (pc' := 35) hK rfl rfl rfl ?_
    refine e_step (pc' := 36) hK rfl rfl rfl ?_
    refine e_iast (pc' := 37) hK rfl (by simp (disch := omega) only [mH_t64, mH_r1, mH_r3, mH_r4, mH_r5, mH_r6, mH_r8, mH_r9, mH_r10, mH_r11, mH_r12, mH_r14, mH_i0, mH_i2, mH_i7, mH_i13, mH_i15, mH_t71, mH_t, mH_lr, mH_l65, mH_l69, mH_l70, mH_l71, mH_l72, mH_l73, mH_l74, mH_l75, mH_c, r0, r1, up_n, ew]) (by omega) (by (try simp (disch := omega) only [mH_t64, mH_r1, mH_r3, mH_r4, mH_r5, mH_r6, mH_r8, mH_r9, mH_r10, mH_r11, mH_r12, mH_r14, mH_i0, mH_i2, mH_i7, mH_i13, mH_i15, mH_t71, mH_t, mH_lr, mH_l65, mH_l69, mH_l70, mH_l71, mH_l72, mH_l73, mH_l74, mH_l75, mH_c, r0, r1, up_n, ew]); omega) rfl ?_
    simp (disch := omega) only [mW_0, mW_2, mW_7, mW_13, mW_15, mW_a, gu_s]
    refine e_step (pc' := 38) hK rfl rfl rfl ?_
    refine e_step (pc' := 39) hK rfl rfl rfl ?_
    refine e_step (pc' := 40) hK rfl rfl rfl ?_
    refine e_iald (pc' := 41) hK rfl (by simp (disch := omega) only [mH_t64, mH_r1, mH_r3, mH_r4, mH_r5, mH_r6, mH_r8, mH_r9, mH_r10, mH_r11, mH_r12, mH_r14, mH_i0, mH_i2, mH_i7, mH_i13, mH_i15, mH_t71, mH_t, mH_lr, mH_l65, mH_l69, mH_l70, mH_l71, mH_l72, mH_l73, mH_l74, mH_l75, mH_c, r0, r1, up_n, ew]) (by omega) (by (try simp (disch := omega) only [mH_t64, mH_r1, mH_r3, mH_r4, mH_r5, mH_r6, mH_r8, mH_r9, mH_r10, mH_r11, mH_r12, mH_r14, mH_i0, mH_i2, mH_i7, mH_i13, mH_i15, mH_t71, mH_t, mH_lr, mH_l65, mH_l69, mH_l70, mH_l71, mH_l72, mH_l73, mH_l74, mH_l75, mH_c, r0, r1, up_n, ew]); omega) rfl ?_
    try simp (disch := omega) only [mH_t64, mH_r1, mH_r3, mH_r4, mH_r5, mH_r6, mH_r8, mH_r9, mH_r10, mH_r11, mH_r12, mH_r14, mH_i0, mH_i2, mH_i7, mH_i13, mH_i15, mH_t71, mH_t, mH_lr, mH_l65, mH_l69, mH_l70, mH_l71, mH_l72, mH_l73, mH_l74, mH_l75, mH_c, r0, r1, up_n, ew]
    refine e_step (pc' := 42) hK rfl rfl rfl ?_
    refine e_step (pc' := 43) hK rfl rfl rfl ?_
    refine e_iast (pc' := 44) hK rfl (by simp (disch := omega) only [mH_t64, mH_r1, mH_r3, mH_r4, mH_r5, mH_r6, mH_r8, mH_r9, mH_r10, mH_r11, mH_r12, mH_r14, mH_i0, mH_i2, mH_i7, mH_i13, mH_i15, mH_t71, mH_t, mH_lr, mH_l65, mH_l69, mH_l70, mH_l71, mH_l72, mH_l73, mH_l74, mH_l75, mH_c, r0, r1, up_n, ew]) (by omega) (by (try simp (disch := omega) only [mH_t64, mH_r1, mH_r3, mH_r4, mH_r5, mH_r6, mH_r8, mH_r9, mH_r10, mH_r11, mH_r12, mH_r14, mH_i0, mH_i2, mH_i7, mH_i13, mH_i15, mH_t71, mH_t, mH_lr, mH_l65, mH_l69, mH_l70, mH_l71, mH_l72, mH_l73, mH_l74, mH_l75, mH_c, r0, r1, up_n, ew]); omega) rfl ?_
    simp (disch := omega) only [mW_0, mW_2, mW_7, mW_13, mW_15, mW_a, gu_s]
    refine e_step (pc' := 45) hK rfl rfl rfl ?_
    refine e_ret hK rfl rfl rfl ?_
    refine ⟨by rw [nn], rfl, _, rfl, fun b n1 n2 n3 n4 => by rw [gu_n n4, gu_n n4]; exact (mo_m hw) b n1 n2 n3 n4, ?_⟩
    refine Rw_settle (U := w a) hR hI hx hl hn hT q1 qo qn ?_ ?_ (fun q n1 n2 => ?_)
    · rw [gu_s, up_s, up_n (by omega), r0]
    · rw [gu_s, up_n (by omega), up_s, nn]
    · rw [gu_s, up_n n1, up_n n2, ew]
  · replace hb15 := cq_ne.2.mp hb15
    refine e_step (pc' := 19) hK rfl rfl rfl ?_
    refine e_step (pc' := 20) hK rfl rfl rfl ?_
    refine e_iald (pc' := 21) hK rfl (by simp (disch := omega) only [mH_t64, mH_r1, mH_r3, mH_r4, mH_r5, mH_r6, mH_r8, mH_r9, mH_r10, mH_r11, mH_r12, mH_r14, mH_i0, mH_i2, mH_i7, mH_i13, mH_i15, mH_t71, mH_t, mH_lr, mH_l65, mH_l69, mH_l70, mH_l71, mH_l72, mH_l73, mH_l74, mH_l75, mH_c, r0, r1, up_n, ew]) (by omega) (by (try simp (disch := omega) only [mH_t64, mH_r1, mH_r3, mH_r4, mH_r5, mH_r6, mH_r8, mH_r9, mH_r10, mH_r11, mH_r12, mH_r14, mH_i0, mH_i2, mH_i7, mH_i13, mH_i15, mH_t71, mH_t, mH_lr, mH_l65, mH_l69, mH_l70, mH_l71, mH_l72, mH_l73, mH_l74, mH_l75, mH_c, r0, r1, up_n, ew]); omega) rfl ?_
    try simp (disch := omega) only [mH_t64, mH_r1, mH_r3, mH_r4, mH_r5, mH_r6, mH_r8, mH_r9, mH_r10, mH_r11, mH_r12, mH_r14, mH_i0, mH_i2, mH_i7, mH_i13, mH_i15, mH_t71, mH_t, mH_lr, mH_l65, mH_l69, mH_l70, mH_l71, mH_l72, mH_l73, mH_l74, mH_l75, mH_c, r0, r1, up_n, ew]
    refine e_step (pc' := 22) hK rfl rfl rfl ?_
    try simp only [List.set_cons_zero, List.set_cons_succ]
    refine e_step (pc' := 23) hK rfl rfl rfl ?_
    refine e_step (pc' := 24) hK rfl rfl rfl ?_
    refine e_step (pc' := 25) hK rfl rfl rfl ?_
    refine e_cQV3 (z := 153) hK rfl rfl (by first | (simp (disch := omega) only [mH_t64, mH_r1, mH_r3, mH_r4, mH_r5, mH_r6, mH_r8, mH_r9, mH_r10, mH_r11, mH_r12, mH_r14, mH_i0, mH_i2, mH_i7, mH_i13, mH_i15, mH_t71, mH_t, mH_lr, mH_l65, mH_l69, mH_l70, mH_l71, mH_l72, mH_l73, mH_l74, mH_l75, mH_c, r0, r1, up_n, ew]; rfl) | (show _ = 2; assumption) | (show _ = 1; assumption) | (show _ = 0; assumption) | (show _ = 3; assumption) | (show _ = 4; assumption)) rfl (Nat.le_of_ble_eq_true rfl) (Nat.le_of_ble_eq_true rfl) (m_addT a ha (by rw [ew]; exact hR) hI hx (by rw [ew]; exact hl) hn hT) ?_
    rintro _ _ _ ⟨rfl, rfl, u, rfl, hu, a1, a2, a3, a4⟩
    refine ⟨by decide, ?_⟩
    rw [if_pos rfl]
    try dsimp only
    show mv_Ev _ _ 28 _ _ _ _ _
    have q1 : u a 1 = if gff A x = -9999 then (gT A : Int) + 1 else gT A := by { rw [a1, if_pos hb15] }
    have qo : ∀ q : Int, q ≠ 1 → (q < 1052 + 13 * (gT A : Int) ∨ 1052 + 13 * (gT A : Int) + 13 ≤ q) → u a q = v a q := fun q n1 n2 => by rw [a4 q n1 n2, ew]
    have qn : gff A x = -9999 → u a (1052 + 13 * (gT A : Int)) = xn x ∧ ∀ p : Int, 0 ≤ p → p < xn x → u a (1052 + 13 * (gT A : Int) + 1 + p) = xk x p := fun e => ⟨a2, a3⟩
    have nn : (gT A : Int) = gnw A x := ((gnw_b A x).2.2.1 hb15).symm
    have u0 : u a 0 = gn A := (qo 0 (by omega) (by omega)).trans r0
    refine e_step (pc' := 29) hK rfl rfl rfl ?_
    refine e_step (pc' := 30) hK rfl rfl rfl ?_
    refine e_cRS1 (z := 116) (pc' := 33) hK rfl rfl rfl (Nat.le_of_ble_eq_true rfl) (Nat.le_of_ble_eq_true rfl) (m_lineAt (gn A : Int)) (by decide) rfl ?_
    try simp (disch := omega) only [mH_t64, mH_r1, mH_r3, mH_r4, mH_r5, mH_r6, mH_r8, mH_r9, mH_r10, mH_r11, mH_r12, mH_r14, mH_i0, mH_i2, mH_i7, mH_i13, mH_i15, mH_t71, mH_t, mH_lr, mH_l65, mH_l69, mH_l70, mH_l71, mH_l72, mH_l73, mH_l74, mH_l75, mH_c, r0, r1, up_n, ew, u0]
    refine e_step (pc' := 34) hK rfl rfl rfl ?_
    refine e_step (pc' := 35) hK rfl rfl rfl ?_
    refine e_step (pc' := 36) hK rfl rfl rfl ?_
    refine e_iast (pc' := 37) hK rfl (by simp (disch := omega) only [mH_t64, mH_r1, mH_r3, mH_r4, mH_r5, mH_r6, mH_r8, mH_r9, mH_r10, mH_r11, mH_r12, mH_r14, mH_i0, mH_i2, mH_i7, mH_i13, mH_i15, mH_t71, mH_t, mH_lr, mH_l65, mH_l69, mH_l70, mH_l71, mH_l72, mH_l73, mH_l74, mH_l75, mH_c, r0, r1, up_n, ew, u0]) (by omega) (by (try simp (disch := omega) only [mH_t64, mH_r1, mH_r3, mH_r4, mH_r5, mH_r6, mH_r8, mH_r9, mH_r10, mH_r11, mH_r12, mH_r14, mH_i0, mH_i2, mH_i7, mH_i13, mH_i15, mH_t71, mH_t, mH_lr, mH_l65, mH_l69, mH_l70, mH_l71, mH_l72, mH_l73, mH_l74, mH_l75, mH_c, r0, r1, up_n, ew, u0]); omega) rfl ?_
    simp (disch := omega) only [mW_0, mW_2, mW_7, mW_13, mW_15, mW_a, gu_s]
    refine e_step (pc' := 38) hK rfl rfl rfl ?_
    refine e_step (pc' := 39) hK rfl rfl rfl ?_
    refine e_step (pc' := 40) hK rfl rfl rfl ?_
    refine e_iald (pc' := 41) hK rfl (by simp (disch := omega) only [mH_t64, mH_r1, mH_r3, mH_r4, mH_r5, mH_r6, mH_r8, mH_r9, mH_r10, mH_r11, mH_r12, mH_r14, mH_i0, mH_i2, mH_i7, mH_i13, mH_i15, mH_t71, mH_t, mH_lr, mH_l65, mH_l69, mH_l70, mH_l71, mH_l72, mH_l73, mH_l74, mH_l75, mH_c, r0, r1, up_n, ew, u0]) (by omega) (by (try simp (disch := omega) only [mH_t64, mH_r1, mH_r3, mH_r4, mH_r5, mH_r6, mH_r8, mH_r9, mH_r10, mH_r11, mH_r12, mH_r14, mH_i0, mH_i2, mH_i7, mH_i13, mH_i15, mH_t71, mH_t, mH_lr, mH_l65, mH_l69, mH_l70, mH_l71, mH_l72, mH_l73, mH_l74, mH_l75, mH_c, r0, r1, up_n, ew, u0]); omega) rfl ?_
    try simp (disch := omega) only [mH_t64, mH_r1, mH_r3, mH_r4, mH_r5, mH_r6, mH_r8, mH_r9, mH_r10, mH_r11, mH_r12, mH_r14, mH_i0, mH_i2, mH_i7, mH_i13, mH_i15, mH_t71, mH_t, mH_lr, mH_l65, mH_l69, mH_l70, mH_l71, mH_l72, mH_l73, mH_l74, mH_l75, mH_c, r0, r1, up_n, ew, u0]
    refine e_step (pc' := 42) hK rfl rfl rfl ?_
    refine e_step (pc' := 43) hK rfl rfl rfl ?_
    refine e_iast (pc' := 44) hK rfl (by simp (disch := omega) only [mH_t64, mH_r1, mH_r3, mH_r4, mH_r5, mH_r6, mH_r8, mH_r9, mH_r10, mH_r11, mH_r12, mH_r14, mH_i0, mH_i2, mH_i7, mH_i13, mH_i15, mH_t71, mH_t, mH_lr, mH_l65, mH_l69, mH_l70, mH_l71, mH_l72, mH_l73, mH_l74, mH_l75, mH_c, r0, r1, up_n, ew, u0]) (by omega) (by (try simp (disch := omega) only [mH_t64, mH_r1, mH_r3, mH_r4, mH_r5, mH_r6, mH_r8, mH_r9, mH_r10, mH_r11, mH_r12, mH_r14, mH_i0, mH_i2, mH_i7, mH_i13, mH_i15, mH_t71, mH_t, mH_lr, mH_l65, mH_l69, mH_l70, mH_l71, mH_l72, mH_l73, mH_l74, mH_l75, mH_c, r0, r1, up_n, ew, u0]); omega) rfl ?_
    simp (disch := omega) only [mW_0, mW_2, mW_7, mW_13, mW_15, mW_a, gu_s]
    refine e_step (pc' := 45) hK rfl rfl rfl ?_
    refine e_ret hK rfl rfl rfl ?_
    refine ⟨by rw [nn], rfl, _, rfl, fun b n1 n2 n3 n4 => by rw [gu_n n4, gu_n n4]; exact (mo_t (mo_m hw) hu) b n1 n2 n3 n4, ?_⟩
    refine Rw_settle (U := u a) hR hI hx hl hn hT q1 qo qn ?_ ?_ (fun q n1 n2 => ?_)
    · rw [gu_s, up_s, up_n (by omega), u0]
    · rw [gu_s, up_n (by omega), up_s, nn]
    · rw [gu_s, up_n n1, up_n n2]
set_option maxRecDepth 10000 in
theorem m_canSettle (a : Int) (ha : 266 ≤ a ∧ a ≤ 268) {A : lg} (hR : Rw (v a) A) (hI : gI A) {x : xt} (hx : xok x) (hl : Rl (v a) (gn A) x) (hn : gn A ≤ 24) : mv_Cl sc q_Mod_canSettle [(2, 264), (2, a)] c (mH h v) (mv_Ms h v (mv_bo (decide (gn A < 24 ∧ (gT A < 12 ∨ gff A x ≠ -9999)))) c) := by
  have b1 := hI.1
  have b2 := hI.2.1
  have r0 := hR.1
  have r1 := hR.2.1
  have b3 := xn_b hx
  have gb := gff_b A x
  show mv_Ev sc 147 0 [(2, 264), (2, a)] [] c (mH h v) _
  have hK : (mv_m 147).1 = kc_Mod_canSettle := rfl
  refine e_step (pc' := 1) hK rfl rfl rfl ?_
  refine e_step (pc' := 2) hK rfl rfl rfl ?_
  refine e_iald (pc' := 3) hK rfl (by simp (disch := omega) only [mH_t64, mH_r1, mH_r3, mH_r4, mH_r5, mH_r6, mH_r8, mH_r9, mH_r10, mH_r11, mH_r12, mH_r14, mH_i0, mH_i2, mH_i7, mH_i13, mH_i15, mH_t71, mH_t, mH_lr, mH_l65, mH_l69, mH_l70, mH_l71, mH_l72, mH_l73, mH_l74, mH_l75, mH_c, r0, r1]) (by omega) (by (try simp (disch := omega) only [mH_t64, mH_r1, mH_r3, mH_r4, mH_r5, mH_r6, mH_r8, mH_r9, mH_r10, mH_r11, mH_r12, mH_r14, mH_i0, mH_i2, mH_i7, mH_i13, mH_i15, mH_t71, mH_t, mH_lr, mH_l65, mH_l69, mH_l70, mH_l71, mH_l72, mH_l73, mH_l74, mH_l75, mH_c, r0, r1]); omega) rfl ?_
  try simp (disch := omega) only [mH_t64, mH_r1, mH_r3, mH_r4, mH_r5, mH_r6, mH_r8, mH_r9, mH_r10, mH_r11, mH_r12, mH_r14, mH_i0, mH_i2, mH_i7, mH_i13, mH_i15, mH_t71, mH_t, mH_lr, mH_l65, mH_l69, mH_l70, mH_l71, mH_l72, mH_l73, mH_l74, mH_l75, mH_c, r0, r1]
  refine e_step (pc' := 5) hK rfl rfl rfl ?_
  refine e_icmp (t := 34) (pc' := 8) hK rfl (by omega) (by omega) (by decide) rfl (fun hb5 => ?_) (fun hb5 => ?_)
  · replace hb5 := cq_ge.1.mp hb5
    refine e_step (pc' := 35) hK rfl rfl rfl ?_
    refine e_ret hK rfl rfl (by first | rfl | (simp only [mv_ret]; rw [if_pos]; exact Or.inr ⟨rfl, by omega⟩) | (simp only [mv_ret]; rw [if_pos]; exact Or.inr ⟨rfl, by unfold mv_bo; split <;> first | exact Or.inl rfl | exact Or.inr rfl⟩)) ?_
    refine ⟨?_, rfl, v, rfl, ms_r v⟩
    rw [decide_eq_false (by omega)]
    rfl
  · replace hb5 := cq_ge.2.mp hb5
    refine e_step (pc' := 9) hK rfl rfl rfl ?_
    refine e_step (pc' := 10) hK rfl rfl rfl ?_
    refine e_iald (pc' := 11) hK rfl (by simp (disch := omega) only [mH_t64, mH_r1, mH_r3, mH_r4, mH_r5, mH_r6, mH_r8, mH_r9, mH_r10, mH_r11, mH_r12, mH_r14, mH_i0, mH_i2, mH_i7, mH_i13, mH_i15, mH_t71, mH_t, mH_lr, mH_l65, mH_l69, mH_l70, mH_l71, mH_l72, mH_l73, mH_l74, mH_l75, mH_c, r0, r1]) (by omega) (by (try simp (disch := omega) only [mH_t64, mH_r1, mH_r3, mH_r4, mH_r5, mH_r6, mH_r8, mH_r9, mH_r10, mH_r11, mH_r12, mH_r14, mH_i0, mH_i2, mH_i7, mH_i13, mH_i15, mH_t71, mH_t, mH_lr, mH_l65, mH_l69, mH_l70, mH_l71, mH_l72, mH_l73, mH_l74, mH_l75, mH_c, r0, r1]); omega) rfl ?_
    try simp (disch := omega) only [mH_t64, mH_r1, mH_r3, mH_r4, mH_r5, mH_r6, mH_r8, mH_r9, mH_r10, mH_r11, mH_r12, mH_r14, mH_i0, mH_i2, mH_i7, mH_i13, mH_i15, mH_t71, mH_t, mH_lr, mH_l65, mH_l69, mH_l70, mH_l71, mH_l72, mH_l73, mH_l74, mH_l75, mH_c, r0, r1]
    refine e_step (pc' := 13) hK rfl rfl rfl ?_
    refine e_icmp (t := 30) (pc' := 16) hK rfl (by omega) (by omega) (by decide) rfl (fun hb13 => ?_) (fun hb13 => ?_)
    · replace hb13 := cq_lt.1.mp hb13
      refine e_step (pc' := 31) hK rfl rfl rfl ?_
      refine e_goto (t := 35) hK rfl (by decide) ?_
      refine e_ret hK rfl rfl (by first | rfl | (simp only [mv_ret]; rw [if_pos]; exact Or.inr ⟨rfl, by omega⟩) | (simp only [mv_ret]; rw [if_pos]; exact Or.inr ⟨rfl, by unfold mv_bo; split <;> first | exact Or.inl rfl | exact Or.inr rfl⟩)) ?_
      refine ⟨?_, rfl, v, rfl, ms_r v⟩
      rw [decide_eq_true (by omega)]
      rfl
    · replace hb13 := cq_lt.2.mp hb13
      refine e_step (pc' := 17) hK rfl rfl rfl ?_
      refine e_step (pc' := 18) hK rfl rfl rfl ?_
      refine e_step (pc' := 19) hK rfl rfl rfl ?_
      refine e_step (pc' := 20) hK rfl rfl rfl ?_
      refine e_iald (pc' := 21) hK rfl (by simp (disch := omega) only [mH_t64, mH_r1, mH_r3, mH_r4, mH_r5, mH_r6, mH_r8, mH_r9, mH_r10, mH_r11, mH_r12, mH_r14, mH_i0, mH_i2, mH_i7, mH_i13, mH_i15, mH_t71, mH_t, mH_lr, mH_l65, mH_l69, mH_l70, mH_l71, mH_l72, mH_l73, mH_l74, mH_l75, mH_c, r0, r1]) (by omega) (by (try simp (disch := omega) only [mH_t64, mH_r1, mH_r3, mH_r4, mH_r5, mH_r6, mH_r8, mH_r9, mH_r10, mH_r11, mH_r12, mH_r14, mH_i0, mH_i2, mH_i7, mH_i13, mH_i15, mH_t71, mH_t, mH_lr, mH_l65, mH_l69, mH_l70, mH_l71, mH_l72, mH_l73, mH_l74, mH_l75, mH_c, r0, r1]); omega) rfl ?_
      try simp (disch := omega) only [mH_t64, mH_r1, mH_r3, mH_r4, mH_r5, mH_r6, mH_r8, mH_r9, mH_r10, mH_r11, mH_r12, mH_r14, mH_i0, mH_i2, mH_i7, mH_i13, mH_i15, mH_t71, mH_t, mH_lr, mH_l65, mH_l69, mH_l70, mH_l71, mH_l72, mH_l73, mH_l74, mH_l75, mH_c, r0, r1]
      refine e_cQV3 (z := 148) hK rfl rfl (by first | (simp (disch := omega) only [mH_t64, mH_r1, mH_r3, mH_r4, mH_r5, mH_r6, mH_r8, mH_r9, mH_r10, mH_r11, mH_r12, mH_r14, mH_i0, mH_i2, mH_i7, mH_i13, mH_i15, mH_t71, mH_t, mH_lr, mH_l65, mH_l69, mH_l70, mH_l71, mH_l72, mH_l73, mH_l74, mH_l75, mH_c, r0, r1]; rfl) | (show _ = 2; assumption) | (show _ = 1; assumption) | (show _ = 0; assumption) | (show _ = 3; assumption) | (show _ = 4; assumption)) rfl (Nat.le_of_ble_eq_true rfl) (Nat.le_of_ble_eq_true rfl) (m_tempFor a ha hR hI (gn A) ⟨by omega, by omega⟩ hx hl) ?_
      rintro _ _ _ ⟨rfl, rfl, w, rfl, hw⟩
      refine ⟨by show (0 : Nat) ≠ 4; decide, ?_⟩
      rw [if_neg (by show ¬ (0 : Nat) = 3; decide)]
      try dsimp only
      show mv_Ev _ _ 24 _ _ _ _ _
      refine e_step (pc' := 27) hK rfl rfl rfl ?_
      refine e_icmp (t := 34) (pc' := 30) hK rfl (by omega) (by omega) (by decide) rfl (fun hb27 => ?_) (fun hb27 => ?_)
      · replace hb27 := cq_eq.1.mp hb27
        refine e_step (pc' := 35) hK rfl rfl rfl ?_
        refine e_ret hK rfl rfl (by first | rfl | (simp only [mv_ret]; rw [if_pos]; exact Or.inr ⟨rfl, by omega⟩) | (simp only [mv_ret]; rw [if_pos]; exact Or.inr ⟨rfl, by unfold mv_bo; split <;> first | exact Or.inl rfl | exact Or.inr rfl⟩)) ?_
        refine ⟨?_, rfl, w, rfl, hw⟩
        rw [decide_eq_false (by omega)]
        rfl
      · replace hb27 := cq_eq.2.mp hb27
        refine e_step (pc' := 31) hK rfl rfl rfl ?_
        refine e_goto (t := 35) hK rfl (by decide) ?_
        refine e_ret hK rfl rfl (by first | rfl | (simp only [mv_ret]; rw [if_pos]; exact Or.inr ⟨rfl, by omega⟩) | (simp only [mv_ret]; rw [if_pos]; exact Or.inr ⟨rfl, by unfold mv_bo; split <;> first | exact Or.inl rfl | exact Or.inr rfl⟩)) ?_
        refine ⟨?_, rfl, w, rfl, hw⟩
        rw [decide_eq_true (by omega)]
        rfl
set_option maxRecDepth 10000 in
theorem m_layT1 (a : Int) (ha : 266 ≤ a ∧ a ≤ 268) {A : lg} (hR : Rw (v a) A) (hI : gI A) (n : Nat) (f : Int → Int) (z2 : v 264 2 = n) (n40 : n ≤ 40) (ft : ∀ k : Int, 0 ≤ k → k < n → v 265 k = f k) (hn : gn A ≤ 24) : ∀ (m : Nat) (k : Nat) (w : mvt), (k + m = n ∧ mq a v w ∧ w a (2 + 42 * gn A) = n ∧ (∀ q : Int, 0 ≤ q → q < k → w a (2 + 42 * gn A + 2 + q) = f q) ∧ ∀ q : Int, (q < 2 + 42 * gn A ∨ 2 + 42 * gn A + 42 ≤ q) → w a q = v a q) → mv_Ev sc 146 24 [(2, 264), (2, a), (0, 2 + 42 * (gn A : Int)), (0, (k : Int))] [] c (mH h w) (fun r c' h' => r = (3, 0) ∧ c' = c ∧ ∃ w, h' = mH h w ∧ mq a v w ∧ Rl (w a) (gn A) (n, f) ∧ ∀ q : Int, (q < 2 + 42 * gn A ∨ 2 + 42 * gn A + 42 ≤ q) → w a q = v a q) := by
  intro m
  induction m with
  | zero =>
    intro k w ⟨hk, hw, g1, g2, g3⟩
    have b1 := hI.1
    have b2 := hI.2.1
    have r0 := hR.1
    have r1 := hR.2.1
    have e64 : w 264 = v 264 := hw 264 (by omega)
    have e65 : w 265 = v 265 := hw 265 (by omega)
    have hK : (mv_m 146).1 = kc_Mod_layText := rfl
    refine e_step (pc' := 25) hK rfl rfl rfl ?_
    refine e_step (pc' := 26) hK rfl rfl rfl ?_
    refine e_getI (ci := 4) (k := 2) (pc' := 29) hK rfl (by simp (disch := omega) only [mH_t64, mH_r1, mH_r3, mH_r4, mH_r5, mH_r6, mH_r8, mH_r9, mH_r10, mH_r11, mH_r12, mH_r14, mH_i0, mH_i2, mH_i7, mH_i13, mH_i15, mH_t71, mH_t, mH_lr, mH_l65, mH_l69, mH_l70, mH_l71, mH_l72, mH_l73, mH_l74, mH_l75, mH_c, e64, e65, z2]) rfl rfl (by decide) (by decide) rfl ?_
    try simp (disch := omega) only [mH_t64, mH_r1, mH_r3, mH_r4, mH_r5, mH_r6, mH_r8, mH_r9, mH_r10, mH_r11, mH_r12, mH_r14, mH_i0, mH_i2, mH_i7, mH_i13, mH_i15, mH_t71, mH_t, mH_lr, mH_l65, mH_l69, mH_l70, mH_l71, mH_l72, mH_l73, mH_l74, mH_l75, mH_c, e64, e65, z2]
    refine e_icmp (t := 57) (pc' := 32) hK rfl (by omega) (by omega) (by decide) rfl (fun hb29 => ?_) (fun hb29 => ?_)
    · replace hb29 := cq_ge.1.mp hb29
      refine e_ret hK rfl rfl rfl ?_
      refine ⟨rfl, rfl, w, rfl, hw, ⟨g1, fun q q0 q1 => g2 q q0 (by have : (q : Int) < n := q1; omega)⟩, g3⟩
    · replace hb29 := cq_ge.2.mp hb29
      exfalso; first | omega | exact absurd trivial (by assumption)
  | succ m ih =>
    intro k w ⟨hk, hw, g1, g2, g3⟩
    have b1 := hI.1
    have b2 := hI.2.1
    have r0 := hR.1
    have r1 := hR.2.1
    have e64 : w 264 = v 264 := hw 264 (by omega)
    have e65 : w 265 = v 265 := hw 265 (by omega)
    have hK : (mv_m 146).1 = kc_Mod_layText := rfl
    refine e_step (pc' := 25) hK rfl rfl rfl ?_
    refine e_step (pc' := 26) hK rfl rfl rfl ?_
    refine e_getI (ci := 4) (k := 2) (pc' := 29) hK rfl (by simp (disch := omega) only [mH_t64, mH_r1, mH_r3, mH_r4, mH_r5, mH_r6, mH_r8, mH_r9, mH_r10, mH_r11, mH_r12, mH_r14, mH_i0, mH_i2, mH_i7, mH_i13, mH_i15, mH_t71, mH_t, mH_lr, mH_l65, mH_l69, mH_l70, mH_l71, mH_l72, mH_l73, mH_l74, mH_l75, mH_c, e64, e65, z2]) rfl rfl (by decide) (by decide) rfl ?_
    try simp (disch := omega) only [mH_t64, mH_r1, mH_r3, mH_r4, mH_r5, mH_r6, mH_r8, mH_r9, mH_r10, mH_r11, mH_r12, mH_r14, mH_i0, mH_i2, mH_i7, mH_i13, mH_i15, mH_t71, mH_t, mH_lr, mH_l65, mH_l69, mH_l70, mH_l71, mH_l72, mH_l73, mH_l74, mH_l75, mH_c, e64, e65, z2]
    refine e_icmp (t := 57) (pc' := 32) hK rfl (by omega) (by omega) (by decide) rfl (fun hb29 => ?_) (fun hb29 => ?_)
    · replace hb29 := cq_ge.1.mp hb29
      exfalso; first | omega | exact absurd trivial (by assumption)
    · replace hb29 := cq_ge.2.mp hb29
      refine e_step (pc' := 33) hK rfl rfl rfl ?_
      refine e_step (pc' := 35) hK rfl rfl rfl ?_
      refine e_icmp (t := 57) (pc' := 38) hK rfl (by omega) (by omega) (by decide) rfl (fun hb35 => ?_) (fun hb35 => ?_)
      · replace hb35 := cq_ge.1.mp hb35
        exfalso; first | omega | exact absurd trivial (by assumption)
      · replace hb35 := cq_ge.2.mp hb35
        have fk := ft k (by omega) (by omega)
        refine e_step (pc' := 39) hK rfl rfl rfl ?_
        refine e_step (pc' := 40) hK rfl rfl rfl ?_
        refine e_step (pc' := 41) hK rfl rfl rfl ?_
        refine e_step (pc' := 42) hK rfl rfl rfl ?_
        refine e_step (pc' := 43) hK rfl rfl rfl ?_
        refine e_step (pc' := 44) hK rfl rfl rfl ?_
        refine e_step (pc' := 45) hK rfl rfl rfl ?_
        refine e_getR (ci := 4) (k := 1) (pc' := 48) hK rfl (by simp (disch := omega) only [mH_t64, mH_r1, mH_r3, mH_r4, mH_r5, mH_r6, mH_r8, mH_r9, mH_r10, mH_r11, mH_r12, mH_r14, mH_i0, mH_i2, mH_i7, mH_i13, mH_i15, mH_t71, mH_t, mH_lr, mH_l65, mH_l69, mH_l70, mH_l71, mH_l72, mH_l73, mH_l74, mH_l75, mH_c, e64, e65, z2, fk]) rfl rfl (by decide) (by decide) (by (try simp (disch := omega) only [mH_t64, mH_r1, mH_r3, mH_r4, mH_r5, mH_r6, mH_r8, mH_r9, mH_r10, mH_r11, mH_r12, mH_r14, mH_i0, mH_i2, mH_i7, mH_i13, mH_i15, mH_t71, mH_t, mH_lr, mH_l65, mH_l69, mH_l70, mH_l71, mH_l72, mH_l73, mH_l74, mH_l75, mH_c, e64, e65, z2, fk]); omega) rfl ?_
        try simp (disch := omega) only [mH_t64, mH_r1, mH_r3, mH_r4, mH_r5, mH_r6, mH_r8, mH_r9, mH_r10, mH_r11, mH_r12, mH_r14, mH_i0, mH_i2, mH_i7, mH_i13, mH_i15, mH_t71, mH_t, mH_lr, mH_l65, mH_l69, mH_l70, mH_l71, mH_l72, mH_l73, mH_l74, mH_l75, mH_c, e64, e65, z2, fk]
        refine e_step (pc' := 49) hK rfl rfl rfl ?_
        refine e_iald (pc' := 50) hK rfl (by simp (disch := omega) only [mH_t64, mH_r1, mH_r3, mH_r4, mH_r5, mH_r6, mH_r8, mH_r9, mH_r10, mH_r11, mH_r12, mH_r14, mH_i0, mH_i2, mH_i7, mH_i13, mH_i15, mH_t71, mH_t, mH_lr, mH_l65, mH_l69, mH_l70, mH_l71, mH_l72, mH_l73, mH_l74, mH_l75, mH_c, e64, e65, z2, fk]) (by omega) (by (try simp (disch := omega) only [mH_t64, mH_r1, mH_r3, mH_r4, mH_r5, mH_r6, mH_r8, mH_r9, mH_r10, mH_r11, mH_r12, mH_r14, mH_i0, mH_i2, mH_i7, mH_i13, mH_i15, mH_t71, mH_t, mH_lr, mH_l65, mH_l69, mH_l70, mH_l71, mH_l72, mH_l73, mH_l74, mH_l75, mH_c, e64, e65, z2, fk]); omega) rfl ?_
        try simp (disch := omega) only [mH_t64, mH_r1, mH_r3, mH_r4, mH_r5, mH_r6, mH_r8, mH_r9, mH_r10, mH_r11, mH_r12, mH_r14, mH_i0, mH_i2, mH_i7, mH_i13, mH_i15, mH_t71, mH_t, mH_lr, mH_l65, mH_l69, mH_l70, mH_l71, mH_l72, mH_l73, mH_l74, mH_l75, mH_c, e64, e65, z2, fk]
        refine e_iast (pc' := 51) hK rfl (by simp (disch := omega) only [mH_t64, mH_r1, mH_r3, mH_r4, mH_r5, mH_r6, mH_r8, mH_r9, mH_r10, mH_r11, mH_r12, mH_r14, mH_i0, mH_i2, mH_i7, mH_i13, mH_i15, mH_t71, mH_t, mH_lr, mH_l65, mH_l69, mH_l70, mH_l71, mH_l72, mH_l73, mH_l74, mH_l75, mH_c, e64, e65, z2, fk]) (by omega) (by (try simp (disch := omega) only [mH_t64, mH_r1, mH_r3, mH_r4, mH_r5, mH_r6, mH_r8, mH_r9, mH_r10, mH_r11, mH_r12, mH_r14, mH_i0, mH_i2, mH_i7, mH_i13, mH_i15, mH_t71, mH_t, mH_lr, mH_l65, mH_l69, mH_l70, mH_l71, mH_l72, mH_l73, mH_l74, mH_l75, mH_c, e64, e65, z2, fk]); omega) rfl ?_
        simp (disch := omega) only [mW_0, mW_2, mW_7, mW_13, mW_15, mW_a, gu_s]
        refine e_step (pc' := 54) hK rfl rfl rfl ?_
        try simp only [List.set_cons_zero, List.set_cons_succ]
        refine e_goto (t := 24) hK rfl (by decide) ?_
        refine ih (k + 1) _ ⟨by omega, fun b n1 => by rw [gu_n n1]; exact hw b n1, ?_, fun q p0 p1 => ?_, fun q n2 => ?_⟩
        · rw [gu_s, up_n (by omega)]; exact g1
        · rw [gu_s]
          by_cases e : q = k
          · rw [e, up_s]
          · rw [up_n (by omega)]; exact g2 q p0 (by omega)
        · rw [gu_s, up_n (by omega)]; exact g3 q n2
set_option maxRecDepth 10000 in
theorem m_layText (a : Int) (ha : 266 ≤ a ∧ a ≤ 268) {A : lg} (hR : Rw (v a) A) (hI : gI A) (n : Nat) (f : Int → Int) (z2 : v 264 2 = n) (n40 : n ≤ 40) (ft : ∀ k : Int, 0 ≤ k → k < n → v 265 k = f k) (hn : gn A ≤ 24) : mv_Cl sc q_Mod_layText [(2, 264), (2, a)] c (mH h v) (fun r c' h' => r = (3, 0) ∧ c' = c ∧ ∃ w, h' = mH h w ∧ mq a v w ∧ Rl (w a) (gn A) (n, f) ∧ ∀ q : Int, (q < 2 + 42 * gn A ∨ 2 + 42 * gn A + 42 ≤ q) → w a q = v a q) := by
  have b1 := hI.1
  have b2 := hI.2.1
  have r0 := hR.1
  have r1 := hR.2.1
  show mv_Ev sc 146 0 [(2, 264), (2, a), (5, 0), (5, 0)] [] c (mH h v) _
  have hK : (mv_m 146).1 = kc_Mod_layText := rfl
  refine e_step (pc' := 1) hK rfl rfl rfl ?_
  refine e_step (pc' := 2) hK rfl rfl rfl ?_
  refine e_iald (pc' := 3) hK rfl (by simp (disch := omega) only [mH_t64, mH_r1, mH_r3, mH_r4, mH_r5, mH_r6, mH_r8, mH_r9, mH_r10, mH_r11, mH_r12, mH_r14, mH_i0, mH_i2, mH_i7, mH_i13, mH_i15, mH_t71, mH_t, mH_lr, mH_l65, mH_l69, mH_l70, mH_l71, mH_l72, mH_l73, mH_l74, mH_l75, mH_c, r0, z2]) (by omega) (by (try simp (disch := omega) only [mH_t64, mH_r1, mH_r3, mH_r4, mH_r5, mH_r6, mH_r8, mH_r9, mH_r10, mH_r11, mH_r12, mH_r14, mH_i0, mH_i2, mH_i7, mH_i13, mH_i15, mH_t71, mH_t, mH_lr, mH_l65, mH_l69, mH_l70, mH_l71, mH_l72, mH_l73, mH_l74, mH_l75, mH_c, r0, z2]); omega) rfl ?_
  try simp (disch := omega) only [mH_t64, mH_r1, mH_r3, mH_r4, mH_r5, mH_r6, mH_r8, mH_r9, mH_r10, mH_r11, mH_r12, mH_r14, mH_i0, mH_i2, mH_i7, mH_i13, mH_i15, mH_t71, mH_t, mH_lr, mH_l65, mH_l69, mH_l70, mH_l71, mH_l72, mH_l73, mH_l74, mH_l75, mH_c, r0, z2]
  refine e_cRS1 (z := 116) (pc' := 6) hK rfl rfl rfl (Nat.le_of_ble_eq_true rfl) (Nat.le_of_ble_eq_true rfl) (m_lineAt (gn A : Int)) (by decide) rfl ?_
  try simp (disch := omega) only [mH_t64, mH_r1, mH_r3, mH_r4, mH_r5, mH_r6, mH_r8, mH_r9, mH_r10, mH_r11, mH_r12, mH_r14, mH_i0, mH_i2, mH_i7, mH_i13, mH_i15, mH_t71, mH_t, mH_lr, mH_l65, mH_l69, mH_l70, mH_l71, mH_l72, mH_l73, mH_l74, mH_l75, mH_c, r0, z2]
  refine e_step (pc' := 7) hK rfl rfl rfl ?_
  try simp only [List.set_cons_zero, List.set_cons_succ]
  refine e_step (pc' := 8) hK rfl rfl rfl ?_
  refine e_step (pc' := 9) hK rfl rfl rfl ?_
  refine e_step (pc' := 10) hK rfl rfl rfl ?_
  refine e_getI (ci := 4) (k := 2) (pc' := 13) hK rfl (by simp (disch := omega) only [mH_t64, mH_r1, mH_r3, mH_r4, mH_r5, mH_r6, mH_r8, mH_r9, mH_r10, mH_r11, mH_r12, mH_r14, mH_i0, mH_i2, mH_i7, mH_i13, mH_i15, mH_t71, mH_t, mH_lr, mH_l65, mH_l69, mH_l70, mH_l71, mH_l72, mH_l73, mH_l74, mH_l75, mH_c, r0, z2]) rfl rfl (by decide) (by decide) rfl ?_
  try simp (disch := omega) only [mH_t64, mH_r1, mH_r3, mH_r4, mH_r5, mH_r6, mH_r8, mH_r9, mH_r10, mH_r11, mH_r12, mH_r14, mH_i0, mH_i2, mH_i7, mH_i13, mH_i15, mH_t71, mH_t, mH_lr, mH_l65, mH_l69, mH_l70, mH_l71, mH_l72, mH_l73, mH_l74, mH_l75, mH_c, r0, z2]
  refine e_iast (pc' := 14) hK rfl (by simp (disch := omega) only [mH_t64, mH_r1, mH_r3, mH_r4, mH_r5, mH_r6, mH_r8, mH_r9, mH_r10, mH_r11, mH_r12, mH_r14, mH_i0, mH_i2, mH_i7, mH_i13, mH_i15, mH_t71, mH_t, mH_lr, mH_l65, mH_l69, mH_l70, mH_l71, mH_l72, mH_l73, mH_l74, mH_l75, mH_c, r0, z2]) (by omega) (by (try simp (disch := omega) only [mH_t64, mH_r1, mH_r3, mH_r4, mH_r5, mH_r6, mH_r8, mH_r9, mH_r10, mH_r11, mH_r12, mH_r14, mH_i0, mH_i2, mH_i7, mH_i13, mH_i15, mH_t71, mH_t, mH_lr, mH_l65, mH_l69, mH_l70, mH_l71, mH_l72, mH_l73, mH_l74, mH_l75, mH_c, r0, z2]); omega) rfl ?_
  simp (disch := omega) only [mW_0, mW_2, mW_7, mW_13, mW_15, mW_a, gu_s]
  refine e_step (pc' := 15) hK rfl rfl rfl ?_
  refine e_step (pc' := 16) hK rfl rfl rfl ?_
  refine e_step (pc' := 17) hK rfl rfl rfl ?_
  refine e_step (pc' := 18) hK rfl rfl rfl ?_
  refine e_step (pc' := 21) hK rfl rfl rfl ?_
  refine e_iast (pc' := 22) hK rfl (by simp (disch := omega) only [mH_t64, mH_r1, mH_r3, mH_r4, mH_r5, mH_r6, mH_r8, mH_r9, mH_r10, mH_r11, mH_r12, mH_r14, mH_i0, mH_i2, mH_i7, mH_i13, mH_i15, mH_t71, mH_t, mH_lr, mH_l65, mH_l69, mH_l70, mH_l71, mH_l72, mH_l73, mH_l74, mH_l75, mH_c, r0, z2]) (by omega) (by (try simp (disch := omega) only [mH_t64, mH_r1, mH_r3, mH_r4, mH_r5, mH_r6, mH_r8, mH_r9, mH_r10, mH_r11, mH_r12, mH_r14, mH_i0, mH_i2, mH_i7, mH_i13, mH_i15, mH_t71, mH_t, mH_lr, mH_l65, mH_l69, mH_l70, mH_l71, mH_l72, mH_l73, mH_l74, mH_l75, mH_c, r0, z2]); omega) rfl ?_
  simp (disch := omega) only [mW_0, mW_2, mW_7, mW_13, mW_15, mW_a, gu_s]
  refine e_step (pc' := 23) hK rfl rfl rfl ?_
  refine e_step (pc' := 24) hK rfl rfl rfl ?_
  try simp only [List.set_cons_zero, List.set_cons_succ]
  refine m_layT1 a ha hR hI n f z2 n40 ft hn n 0 _ ⟨by omega, fun b n1 => by rw [gu_n n1, gu_n n1], ?_, fun q p0 p1 => by omega, fun q n2 => ?_⟩
  · rw [gu_s, up_n (by omega), up_s]
  · rw [gu_s, up_n (by omega), up_n (by omega)]
set_option maxRecDepth 10000 in
theorem m_layA1 (a : Int) (ha : 266 ≤ a ∧ a ≤ 268) {A : lg} (hR : Rw (v a) A) (hI : gI A) (i : Int) (hi0 : 0 ≤ i) (hi1 : i < gn A) (hn : gn A ≤ 24) : ∀ (m : Nat) (k : Nat) (w : mvt), (k + m = 42 ∧ mq a v w ∧ (∀ q : Int, 0 ≤ q → q < k → w a (2 + 42 * gn A + q) = v a (2 + 42 * i + q)) ∧ ∀ q : Int, (q < 2 + 42 * gn A ∨ 2 + 42 * gn A + 42 ≤ q) → w a q = v a q) → mv_Ev sc 156 9 [(2, a), (0, i), (0, 2 + 42 * (gn A : Int)), (0, (k : Int))] [] c (mH h w) (fun r c' h' => r = (3, 0) ∧ c' = c ∧ ∃ w, h' = mH h w ∧ mq a v w ∧ (∀ k : Int, 0 ≤ k → k < 42 → w a (2 + 42 * gn A + k) = v a (2 + 42 * i + k)) ∧ ∀ q : Int, (q < 2 + 42 * gn A ∨ 2 + 42 * gn A + 42 ≤ q) → w a q = v a q) := by
  intro m
  induction m with
  | zero =>
    intro k w ⟨hk, hw, g2, g3⟩
    have b1 := hI.1
    have b2 := hI.2.1
    have r0 := hR.1
    have r1 := hR.2.1
    have hK : (mv_m 156).1 = kc_Mod_layAgain := rfl
    refine e_step (pc' := 10) hK rfl rfl rfl ?_
    refine e_step (pc' := 12) hK rfl rfl rfl ?_
    refine e_icmp (t := 34) (pc' := 15) hK rfl (by omega) (by omega) (by decide) rfl (fun hb12 => ?_) (fun hb12 => ?_)
    · replace hb12 := cq_ge.1.mp hb12
      refine e_ret hK rfl rfl rfl ?_
      exact ⟨rfl, rfl, w, rfl, hw, fun q q0 q1 => g2 q q0 (by omega), g3⟩
    · replace hb12 := cq_ge.2.mp hb12
      exfalso; first | omega | exact absurd trivial (by assumption)
  | succ m ih =>
    intro k w ⟨hk, hw, g2, g3⟩
    have b1 := hI.1
    have b2 := hI.2.1
    have r0 := hR.1
    have r1 := hR.2.1
    have hK : (mv_m 156).1 = kc_Mod_layAgain := rfl
    refine e_step (pc' := 10) hK rfl rfl rfl ?_
    refine e_step (pc' := 12) hK rfl rfl rfl ?_
    refine e_icmp (t := 34) (pc' := 15) hK rfl (by omega) (by omega) (by decide) rfl (fun hb12 => ?_) (fun hb12 => ?_)
    · replace hb12 := cq_ge.1.mp hb12
      exfalso; first | omega | exact absurd trivial (by assumption)
    · replace hb12 := cq_ge.2.mp hb12
      have fk := g3 (2 + 42 * i + k) (by omega)
      refine e_step (pc' := 16) hK rfl rfl rfl ?_
      refine e_step (pc' := 17) hK rfl rfl rfl ?_
      refine e_step (pc' := 18) hK rfl rfl rfl ?_
      refine e_step (pc' := 19) hK rfl rfl rfl ?_
      refine e_step (pc' := 20) hK rfl rfl rfl ?_
      refine e_step (pc' := 21) hK rfl rfl rfl ?_
      refine e_cRS1 (z := 116) (pc' := 24) hK rfl rfl rfl (Nat.le_of_ble_eq_true rfl) (Nat.le_of_ble_eq_true rfl) (m_lineAt i) (by decide) rfl ?_
      try simp (disch := omega) only [mH_t64, mH_r1, mH_r3, mH_r4, mH_r5, mH_r6, mH_r8, mH_r9, mH_r10, mH_r11, mH_r12, mH_r14, mH_i0, mH_i2, mH_i7, mH_i13, mH_i15, mH_t71, mH_t, mH_lr, mH_l65, mH_l69, mH_l70, mH_l71, mH_l72, mH_l73, mH_l74, mH_l75, mH_c, fk]
      refine e_step (pc' := 25) hK rfl rfl rfl ?_
      refine e_step (pc' := 26) hK rfl rfl rfl ?_
      refine e_iald (pc' := 27) hK rfl (by simp (disch := omega) only [mH_t64, mH_r1, mH_r3, mH_r4, mH_r5, mH_r6, mH_r8, mH_r9, mH_r10, mH_r11, mH_r12, mH_r14, mH_i0, mH_i2, mH_i7, mH_i13, mH_i15, mH_t71, mH_t, mH_lr, mH_l65, mH_l69, mH_l70, mH_l71, mH_l72, mH_l73, mH_l74, mH_l75, mH_c, fk]) (by omega) (by (try simp (disch := omega) only [mH_t64, mH_r1, mH_r3, mH_r4, mH_r5, mH_r6, mH_r8, mH_r9, mH_r10, mH_r11, mH_r12, mH_r14, mH_i0, mH_i2, mH_i7, mH_i13, mH_i15, mH_t71, mH_t, mH_lr, mH_l65, mH_l69, mH_l70, mH_l71, mH_l72, mH_l73, mH_l74, mH_l75, mH_c, fk]); omega) rfl ?_
      try simp (disch := omega) only [mH_t64, mH_r1, mH_r3, mH_r4, mH_r5, mH_r6, mH_r8, mH_r9, mH_r10, mH_r11, mH_r12, mH_r14, mH_i0, mH_i2, mH_i7, mH_i13, mH_i15, mH_t71, mH_t, mH_lr, mH_l65, mH_l69, mH_l70, mH_l71, mH_l72, mH_l73, mH_l74, mH_l75, mH_c, fk]
      refine e_iast (pc' := 28) hK rfl (by simp (disch := omega) only [mH_t64, mH_r1, mH_r3, mH_r4, mH_r5, mH_r6, mH_r8, mH_r9, mH_r10, mH_r11, mH_r12, mH_r14, mH_i0, mH_i2, mH_i7, mH_i13, mH_i15, mH_t71, mH_t, mH_lr, mH_l65, mH_l69, mH_l70, mH_l71, mH_l72, mH_l73, mH_l74, mH_l75, mH_c, fk]) (by omega) (by (try simp (disch := omega) only [mH_t64, mH_r1, mH_r3, mH_r4, mH_r5, mH_r6, mH_r8, mH_r9, mH_r10, mH_r11, mH_r12, mH_r14, mH_i0, mH_i2, mH_i7, mH_i13, mH_i15, mH_t71, mH_t, mH_lr, mH_l65, mH_l69, mH_l70, mH_l71, mH_l72, mH_l73, mH_l74, mH_l75, mH_c, fk]); omega) rfl ?_
      simp (disch := omega) only [mW_0, mW_2, mW_7, mW_13, mW_15, mW_a, gu_s]
      refine e_step (pc' := 31) hK rfl rfl rfl ?_
      try simp only [List.set_cons_zero, List.set_cons_succ]
      refine e_goto (t := 9) hK rfl (by decide) ?_
      refine ih (k + 1) _ ⟨by omega, fun b n1 => by rw [gu_n n1]; exact hw b n1, fun q p0 p1 => ?_, fun q n2 => ?_⟩
      · rw [gu_s]
        by_cases e : q = k
        · rw [e, up_s]
        · rw [up_n (by omega)]; exact g2 q p0 (by omega)
      · rw [gu_s, up_n (by omega)]; exact g3 q n2
set_option maxRecDepth 10000 in
theorem m_layAgain (a : Int) (ha : 266 ≤ a ∧ a ≤ 268) {A : lg} (hR : Rw (v a) A) (hI : gI A) (i : Int) (hi0 : 0 ≤ i) (hi1 : i < gn A) (hn : gn A ≤ 24) : mv_Cl sc q_Mod_layAgain [(2, a), (0, i)] c (mH h v) (fun r c' h' => r = (3, 0) ∧ c' = c ∧ ∃ w, h' = mH h w ∧ mq a v w ∧ (∀ k : Int, 0 ≤ k → k < 42 → w a (2 + 42 * gn A + k) = v a (2 + 42 * i + k)) ∧ ∀ q : Int, (q < 2 + 42 * gn A ∨ 2 + 42 * gn A + 42 ≤ q) → w a q = v a q) := by
  have b1 := hI.1
  have b2 := hI.2.1
  have r0 := hR.1
  have r1 := hR.2.1
  show mv_Ev sc 156 0 [(2, a), (0, i), (5, 0), (5, 0)] [] c (mH h v) _
  have hK : (mv_m 156).1 = kc_Mod_layAgain := rfl
  refine e_step (pc' := 1) hK rfl rfl rfl ?_
  refine e_step (pc' := 2) hK rfl rfl rfl ?_
  refine e_iald (pc' := 3) hK rfl (by simp (disch := omega) only [mH_t64, mH_r1, mH_r3, mH_r4, mH_r5, mH_r6, mH_r8, mH_r9, mH_r10, mH_r11, mH_r12, mH_r14, mH_i0, mH_i2, mH_i7, mH_i13, mH_i15, mH_t71, mH_t, mH_lr, mH_l65, mH_l69, mH_l70, mH_l71, mH_l72, mH_l73, mH_l74, mH_l75, mH_c, r0]) (by omega) (by (try simp (disch := omega) only [mH_t64, mH_r1, mH_r3, mH_r4, mH_r5, mH_r6, mH_r8, mH_r9, mH_r10, mH_r11, mH_r12, mH_r14, mH_i0, mH_i2, mH_i7, mH_i13, mH_i15, mH_t71, mH_t, mH_lr, mH_l65, mH_l69, mH_l70, mH_l71, mH_l72, mH_l73, mH_l74, mH_l75, mH_c, r0]); omega) rfl ?_
  try simp (disch := omega) only [mH_t64, mH_r1, mH_r3, mH_r4, mH_r5, mH_r6, mH_r8, mH_r9, mH_r10, mH_r11, mH_r12, mH_r14, mH_i0, mH_i2, mH_i7, mH_i13, mH_i15, mH_t71, mH_t, mH_lr, mH_l65, mH_l69, mH_l70, mH_l71, mH_l72, mH_l73, mH_l74, mH_l75, mH_c, r0]
  refine e_cRS1 (z := 116) (pc' := 6) hK rfl rfl rfl (Nat.le_of_ble_eq_true rfl) (Nat.le_of_ble_eq_true rfl) (m_lineAt (gn A : Int)) (by decide) rfl ?_
  try simp (disch := omega) only [mH_t64, mH_r1, mH_r3, mH_r4, mH_r5, mH_r6, mH_r8, mH_r9, mH_r10, mH_r11, mH_r12, mH_r14, mH_i0, mH_i2, mH_i7, mH_i13, mH_i15, mH_t71, mH_t, mH_lr, mH_l65, mH_l69, mH_l70, mH_l71, mH_l72, mH_l73, mH_l74, mH_l75, mH_c, r0]
  refine e_step (pc' := 7) hK rfl rfl rfl ?_
  try simp only [List.set_cons_zero, List.set_cons_succ]
  refine e_step (pc' := 8) hK rfl rfl rfl ?_
  refine e_step (pc' := 9) hK rfl rfl rfl ?_
  try simp only [List.set_cons_zero, List.set_cons_succ]
  exact m_layA1 a ha hR hI i hi0 hi1 hn 42 0 v ⟨by omega, mq_r a v, fun q p0 p1 => by omega, fun q _ => rfl⟩
end MS
