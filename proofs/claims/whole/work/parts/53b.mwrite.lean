/-! the reference: errors, digits, the diary (written by wip/whole/m53.py) -/
section MQ
variable {sc : Int × (Int → Int)} {c : mv_C} {h : mv_H} {v : mvt}
set_option maxRecDepth 20000 in
theorem m_wrong1 {N : Nat} {f : Int → Int} (hx : TxM v N f) : ∀ (m : Nat) (k : Nat) (n la dg : Int) (a5 a6 : mv_V), (k + m = N ∧ lf (erq f) k = -9999 ∧ n = (px f k).1 ∧ ((k = 0 ∧ la = -9999 ∧ dg = 0 ∧ n = 0) ∨ (0 < k ∧ 0 < (px f k).1 ∧ la = (px f k).2.1 ((px f k).1 - 1) ∧ ((la = 3 → dg = (px f k).2.2.2.1 ((px f k).1 - 1)) ∧ (la ≠ 3 → dg = 0))))) → mv_Ev sc 113 11 [(2, 264), (0, n), (0, la), (0, dg), (0, (k : Int)), a5, a6] [] c (mH h v) (mv_Rd (0, er N f) c (mH h v)) := by
  intro m
  induction m with
  | zero =>
    intro k n la dg a5 a6 ⟨hk, hlf, hn, hla⟩
    obtain ⟨z2, hN, fx, fb⟩ := hx
    have hok := px_okl hlf
    have hPI := px_okI hok
    have hkb := px_kb (f k)
    have epab := pab_c (P := px f k) (n := k) (c := f k)
    have elast := px_last (P := px f k) (c := f k) (i := k)
    obtain ⟨p1, p2, p3, p4, p5⟩ := hPI
    have p6 : 0 < (px f k).1 → 0 ≤ (px f k).2.1 ((px f k).1 - 1) ∧ (px f k).2.1 ((px f k).1 - 1) ≤ 3 ∧ 1 ≤ (px f k).2.2.2.1 ((px f k).1 - 1) ∧ (px f k).2.2.2.1 ((px f k).1 - 1) ≤ 40 := fun e => by { have := p5 ((px f k).1 - 1) (by omega) (by omega); omega }
    have hg1 := px_g1 (P := px f k) (k := px_k (f k))
    have hg0 := px_g0 (P := px f k) (k := px_k (f k))
    have hK : (mv_m 113).1 = kc_Mod_wrong := rfl
    refine e_step (pc' := 13) hK rfl rfl rfl ?_
    refine e_step (pc' := 14) hK rfl rfl rfl ?_
    refine e_getI (ci := 4) (k := 2) (pc' := 17) hK rfl (by simp (disch := omega) only [mH_t64, mH_r1, mH_r3, mH_r4, mH_r5, mH_r6, mH_r8, mH_r9, mH_r10, mH_r11, mH_r12, mH_r14, mH_i0, mH_i2, mH_i7, mH_i13, mH_i15, mH_t71, mH_t, mH_lr, mH_l65, mH_l69, mH_l70, mH_l71, mH_l72, mH_l73, mH_l74, mH_l75, mH_c, z2]) rfl rfl (by decide) (by decide) rfl ?_
    try simp (disch := omega) only [mH_t64, mH_r1, mH_r3, mH_r4, mH_r5, mH_r6, mH_r8, mH_r9, mH_r10, mH_r11, mH_r12, mH_r14, mH_i0, mH_i2, mH_i7, mH_i13, mH_i15, mH_t71, mH_t, mH_lr, mH_l65, mH_l69, mH_l70, mH_l71, mH_l72, mH_l73, mH_l74, mH_l75, mH_c, z2]
    refine e_icmp (t := 126) (pc' := 20) hK rfl (by omega) (by omega) (by decide) rfl (fun hb17 => ?_) (fun hb17 => ?_)
    · replace hb17 := cq_ge.1.mp hb17
      refine e_step (pc' := 127) hK rfl rfl rfl ?_
      refine e_getI (ci := 4) (k := 2) (pc' := 130) hK rfl (by simp (disch := omega) only [mH_t64, mH_r1, mH_r3, mH_r4, mH_r5, mH_r6, mH_r8, mH_r9, mH_r10, mH_r11, mH_r12, mH_r14, mH_i0, mH_i2, mH_i7, mH_i13, mH_i15, mH_t71, mH_t, mH_lr, mH_l65, mH_l69, mH_l70, mH_l71, mH_l72, mH_l73, mH_l74, mH_l75, mH_c, z2]) rfl rfl (by decide) (by decide) rfl ?_
      try simp (disch := omega) only [mH_t64, mH_r1, mH_r3, mH_r4, mH_r5, mH_r6, mH_r8, mH_r9, mH_r10, mH_r11, mH_r12, mH_r14, mH_i0, mH_i2, mH_i7, mH_i13, mH_i15, mH_t71, mH_t, mH_lr, mH_l65, mH_l69, mH_l70, mH_l71, mH_l72, mH_l73, mH_l74, mH_l75, mH_c, z2]
      refine e_if (t := 137) (pc' := 133) hK rfl (by omega) (by decide) rfl (fun hb130 => ?_) (fun hb130 => ?_)
      · replace hb130 := cq_ne.1.mp hb130
        refine e_step (pc' := 140) hK rfl rfl rfl ?_
        refine e_ret hK rfl rfl rfl ?_
        have e : N = k := by omega
        subst e
        refine ⟨?_, rfl, rfl⟩
        congr 1
        unfold er
        rw [hlf, if_pos rfl, if_neg (by omega)]
      · replace hb130 := cq_ne.2.mp hb130
        refine e_step (pc' := 134) hK rfl rfl rfl ?_
        refine e_goto (t := 140) hK rfl (by decide) ?_
        refine e_ret hK rfl rfl rfl ?_
        have e : N = k := by omega
        subst e
        refine ⟨?_, rfl, rfl⟩
        congr 1
        unfold er
        rw [hlf, if_pos rfl, if_pos (by omega)]
    · replace hb17 := cq_ge.2.mp hb17
      exfalso; first | omega | exact absurd trivial (by assumption)
  | succ m ih =>
    intro k n la dg a5 a6 ⟨hk, hlf, hn, hla⟩
    obtain ⟨z2, hN, fx, fb⟩ := hx
    have hok := px_okl hlf
    have hPI := px_okI hok
    have hkb := px_kb (f k)
    have epab := pab_c (P := px f k) (n := k) (c := f k)
    have elast := px_last (P := px f k) (c := f k) (i := k)
    obtain ⟨p1, p2, p3, p4, p5⟩ := hPI
    have p6 : 0 < (px f k).1 → 0 ≤ (px f k).2.1 ((px f k).1 - 1) ∧ (px f k).2.1 ((px f k).1 - 1) ≤ 3 ∧ 1 ≤ (px f k).2.2.2.1 ((px f k).1 - 1) ∧ (px f k).2.2.2.1 ((px f k).1 - 1) ≤ 40 := fun e => by { have := p5 ((px f k).1 - 1) (by omega) (by omega); omega }
    have hg1 := px_g1 (P := px f k) (k := px_k (f k))
    have hg0 := px_g0 (P := px f k) (k := px_k (f k))
    have hK : (mv_m 113).1 = kc_Mod_wrong := rfl
    refine e_step (pc' := 13) hK rfl rfl rfl ?_
    refine e_step (pc' := 14) hK rfl rfl rfl ?_
    refine e_getI (ci := 4) (k := 2) (pc' := 17) hK rfl (by simp (disch := omega) only [mH_t64, mH_r1, mH_r3, mH_r4, mH_r5, mH_r6, mH_r8, mH_r9, mH_r10, mH_r11, mH_r12, mH_r14, mH_i0, mH_i2, mH_i7, mH_i13, mH_i15, mH_t71, mH_t, mH_lr, mH_l65, mH_l69, mH_l70, mH_l71, mH_l72, mH_l73, mH_l74, mH_l75, mH_c, z2]) rfl rfl (by decide) (by decide) rfl ?_
    try simp (disch := omega) only [mH_t64, mH_r1, mH_r3, mH_r4, mH_r5, mH_r6, mH_r8, mH_r9, mH_r10, mH_r11, mH_r12, mH_r14, mH_i0, mH_i2, mH_i7, mH_i13, mH_i15, mH_t71, mH_t, mH_lr, mH_l65, mH_l69, mH_l70, mH_l71, mH_l72, mH_l73, mH_l74, mH_l75, mH_c, z2]
    refine e_icmp (t := 126) (pc' := 20) hK rfl (by omega) (by omega) (by decide) rfl (fun hb17 => ?_) (fun hb17 => ?_)
    · replace hb17 := cq_ge.1.mp hb17
      exfalso; first | omega | exact absurd trivial (by assumption)
    · replace hb17 := cq_ge.2.mp hb17
      have fk := fx k (by omega) (by omega)
      have fkb := fb k (by omega) (by omega)
      have ek : (if px_k (f k) = -1 then (-9999 : Int) else px_k (f k)) = -9999 ∧ px_k (f k) = -1 ∨ (if px_k (f k) = -1 then (-9999 : Int) else px_k (f k)) = px_k (f k) ∧ 0 ≤ px_k (f k) ∧ px_k (f k) ≤ 3 := by { split <;> omega }
      generalize hKK : (if px_k (f k) = -1 then (-9999 : Int) else px_k (f k)) = KK at ek
      refine e_step (pc' := 21) hK rfl rfl rfl ?_
      refine e_getR (ci := 4) (k := 1) (pc' := 24) hK rfl (by simp (disch := omega) only [mH_t64, mH_r1, mH_r3, mH_r4, mH_r5, mH_r6, mH_r8, mH_r9, mH_r10, mH_r11, mH_r12, mH_r14, mH_i0, mH_i2, mH_i7, mH_i13, mH_i15, mH_t71, mH_t, mH_lr, mH_l65, mH_l69, mH_l70, mH_l71, mH_l72, mH_l73, mH_l74, mH_l75, mH_c, z2, fk, hKK]) rfl rfl (by decide) (by decide) (by (try simp (disch := omega) only [mH_t64, mH_r1, mH_r3, mH_r4, mH_r5, mH_r6, mH_r8, mH_r9, mH_r10, mH_r11, mH_r12, mH_r14, mH_i0, mH_i2, mH_i7, mH_i13, mH_i15, mH_t71, mH_t, mH_lr, mH_l65, mH_l69, mH_l70, mH_l71, mH_l72, mH_l73, mH_l74, mH_l75, mH_c, z2, fk, hKK]); omega) rfl ?_
      try simp (disch := omega) only [mH_t64, mH_r1, mH_r3, mH_r4, mH_r5, mH_r6, mH_r8, mH_r9, mH_r10, mH_r11, mH_r12, mH_r14, mH_i0, mH_i2, mH_i7, mH_i13, mH_i15, mH_t71, mH_t, mH_lr, mH_l65, mH_l69, mH_l70, mH_l71, mH_l72, mH_l73, mH_l74, mH_l75, mH_c, z2, fk, hKK]
      refine e_step (pc' := 26) hK rfl rfl rfl ?_
      refine e_iald (pc' := 27) hK rfl (by simp (disch := omega) only [mH_t64, mH_r1, mH_r3, mH_r4, mH_r5, mH_r6, mH_r8, mH_r9, mH_r10, mH_r11, mH_r12, mH_r14, mH_i0, mH_i2, mH_i7, mH_i13, mH_i15, mH_t71, mH_t, mH_lr, mH_l65, mH_l69, mH_l70, mH_l71, mH_l72, mH_l73, mH_l74, mH_l75, mH_c, z2, fk, hKK]) (by omega) (by (try simp (disch := omega) only [mH_t64, mH_r1, mH_r3, mH_r4, mH_r5, mH_r6, mH_r8, mH_r9, mH_r10, mH_r11, mH_r12, mH_r14, mH_i0, mH_i2, mH_i7, mH_i13, mH_i15, mH_t71, mH_t, mH_lr, mH_l65, mH_l69, mH_l70, mH_l71, mH_l72, mH_l73, mH_l74, mH_l75, mH_c, z2, fk, hKK]); omega) rfl ?_
      try simp (disch := omega) only [mH_t64, mH_r1, mH_r3, mH_r4, mH_r5, mH_r6, mH_r8, mH_r9, mH_r10, mH_r11, mH_r12, mH_r14, mH_i0, mH_i2, mH_i7, mH_i13, mH_i15, mH_t71, mH_t, mH_lr, mH_l65, mH_l69, mH_l70, mH_l71, mH_l72, mH_l73, mH_l74, mH_l75, mH_c, z2, fk, hKK]
      refine e_cRS1 (z := 114) (pc' := 30) hK rfl rfl rfl (Nat.le_of_ble_eq_true rfl) (Nat.le_of_ble_eq_true rfl) (m_signKind (f k) (by omega)) (by decide) rfl ?_
      try simp (disch := omega) only [mH_t64, mH_r1, mH_r3, mH_r4, mH_r5, mH_r6, mH_r8, mH_r9, mH_r10, mH_r11, mH_r12, mH_r14, mH_i0, mH_i2, mH_i7, mH_i13, mH_i15, mH_t71, mH_t, mH_lr, mH_l65, mH_l69, mH_l70, mH_l71, mH_l72, mH_l73, mH_l74, mH_l75, mH_c, z2, fk, hKK]
      refine e_step (pc' := 32) hK rfl rfl rfl ?_
      try simp only [List.set_cons_zero, List.set_cons_succ]
      refine e_step (pc' := 34) hK rfl rfl rfl ?_
      refine e_step (pc' := 35) hK rfl rfl rfl ?_
      refine e_icmp (t := 44) (pc' := 38) hK rfl (by omega) (by omega) (by decide) rfl (fun hb35 => ?_) (fun hb35 => ?_)
      · replace hb35 := cq_eq.1.mp hb35
        refine e_step (pc' := 45) hK rfl rfl rfl ?_
        refine e_goto (t := 49) hK rfl (by decide) ?_
        refine e_step (pc' := 51) hK rfl rfl rfl ?_
        try simp only [List.set_cons_zero, List.set_cons_succ]
        refine e_step (pc' := 52) hK rfl rfl rfl ?_
        refine e_step (pc' := 54) hK rfl rfl rfl ?_
        refine e_if (t := 61) (pc' := 57) hK rfl (by omega) (by decide) rfl (fun hb54 => ?_) (fun hb54 => ?_)
        · replace hb54 := cq_eq.1.mp hb54
          exfalso; first | omega | exact absurd trivial (by assumption)
        · replace hb54 := cq_eq.2.mp hb54
          refine e_step (pc' := 58) hK rfl rfl rfl ?_
          refine e_goto (t := 62) hK rfl (by decide) ?_
          refine e_step (pc' := 63) hK rfl rfl rfl ?_
          refine e_step (pc' := 64) hK rfl rfl rfl ?_
          try simp only [List.set_cons_zero, List.set_cons_succ]
          refine e_step (pc' := 66) hK rfl rfl rfl ?_
          refine e_step (pc' := 67) hK rfl rfl rfl ?_
          refine e_icmp (t := 74) (pc' := 70) hK rfl (by omega) (by omega) (by decide) rfl (fun hb67 => ?_) (fun hb67 => ?_)
          · replace hb67 := cq_eq.1.mp hb67
            refine e_step (pc' := 76) hK rfl rfl rfl ?_
            refine e_if (t := 83) (pc' := 79) hK rfl (by omega) (by decide) rfl (fun hb76 => ?_) (fun hb76 => ?_)
            · replace hb76 := cq_eq.1.mp hb76
              exfalso; first | omega | exact absurd trivial (by assumption)
            · replace hb76 := cq_eq.2.mp hb76
              refine e_step (pc' := 80) hK rfl rfl rfl ?_
              refine e_goto (t := 86) hK rfl (by decide) ?_
              refine e_step (pc' := 87) hK rfl rfl rfl ?_
              try simp only [List.set_cons_zero, List.set_cons_succ]
              refine e_step (pc' := 89) hK rfl rfl rfl ?_
              refine e_step (pc' := 91) hK rfl rfl rfl ?_
              refine e_icmp (t := 114) (pc' := 94) hK rfl (by omega) (by omega) (by decide) rfl (fun hb91 => ?_) (fun hb91 => ?_)
              · replace hb91 := cq_eq.1.mp hb91
                refine e_step (pc' := 116) hK rfl rfl rfl ?_
                refine e_ret hK rfl rfl rfl ?_
                have hpb : pab (px f k) k (f k) = false := by { cases e9 : pab (px f k) k (f k) with | false => rfl | true => { have q9 := epab.mp e9; exfalso; first | omega | (have hg : px_g (px f k) (px_k (f k)) = false := hg0 (by omega); obtain ⟨l1, l2, l3⟩ := elast.2 hg; have q3 := q9.2.2.1; have q4 := q9.2.2.2; rw [hg] at q3 q4; simp only [Bool.false_eq_true, false_implies, true_implies, forall_const, imp_false] at q3 q4; omega) } }
                have eh : lf (erq f) N = k := lf_hit hlf (by rw [erq_k, hpb]; rfl) (by omega)
                refine ⟨?_, rfl, rfl⟩
                congr 1
                unfold er
                rw [eh, if_neg (by omega)]
              · replace hb91 := cq_eq.2.mp hb91
                refine e_step (pc' := 96) hK rfl rfl rfl ?_
                refine e_step (pc' := 99) hK rfl rfl rfl ?_
                refine e_icmp (t := 114) (pc' := 102) hK rfl (by omega) (by omega) (by decide) rfl (fun hb99 => ?_) (fun hb99 => ?_)
                · replace hb99 := cq_eq.1.mp hb99
                  refine e_step (pc' := 116) hK rfl rfl rfl ?_
                  refine e_ret hK rfl rfl rfl ?_
                  have hpb : pab (px f k) k (f k) = false := by { cases e9 : pab (px f k) k (f k) with | false => rfl | true => { have q9 := epab.mp e9; exfalso; first | omega | (have hg : px_g (px f k) (px_k (f k)) = false := hg0 (by omega); obtain ⟨l1, l2, l3⟩ := elast.2 hg; have q3 := q9.2.2.1; have q4 := q9.2.2.2; rw [hg] at q3 q4; simp only [Bool.false_eq_true, false_implies, true_implies, forall_const, imp_false] at q3 q4; omega) } }
                  have eh : lf (erq f) N = k := lf_hit hlf (by rw [erq_k, hpb]; rfl) (by omega)
                  refine ⟨?_, rfl, rfl⟩
                  congr 1
                  unfold er
                  rw [eh, if_neg (by omega)]
                · replace hb99 := cq_eq.2.mp hb99
                  refine e_step (pc' := 103) hK rfl rfl rfl ?_
                  refine e_step (pc' := 105) hK rfl rfl rfl ?_
                  refine e_icmp (t := 114) (pc' := 108) hK rfl (by omega) (by omega) (by decide) rfl (fun hb105 => ?_) (fun hb105 => ?_)
                  · replace hb105 := cq_gt.1.mp hb105
                    refine e_step (pc' := 116) hK rfl rfl rfl ?_
                    refine e_ret hK rfl rfl rfl ?_
                    have hpb : pab (px f k) k (f k) = false := by { cases e9 : pab (px f k) k (f k) with | false => rfl | true => { have q9 := epab.mp e9; exfalso; first | omega | (have hg : px_g (px f k) (px_k (f k)) = false := hg0 (by omega); obtain ⟨l1, l2, l3⟩ := elast.2 hg; have q3 := q9.2.2.1; have q4 := q9.2.2.2; rw [hg] at q3 q4; simp only [Bool.false_eq_true, false_implies, true_implies, forall_const, imp_false] at q3 q4; omega) } }
                    have eh : lf (erq f) N = k := lf_hit hlf (by rw [erq_k, hpb]; rfl) (by omega)
                    refine ⟨?_, rfl, rfl⟩
                    congr 1
                    unfold er
                    rw [eh, if_neg (by omega)]
                  · replace hb105 := cq_gt.2.mp hb105
                    refine e_step (pc' := 109) hK rfl rfl rfl ?_
                    refine e_step (pc' := 111) hK rfl rfl rfl ?_
                    refine e_icmp (t := 117) (pc' := 114) hK rfl (by omega) (by omega) (by decide) rfl (fun hb111 => ?_) (fun hb111 => ?_)
                    · replace hb111 := cq_le.1.mp hb111
                      refine e_step (pc' := 119) hK rfl rfl rfl ?_
                      refine e_step (pc' := 120) hK rfl rfl rfl ?_
                      try simp only [List.set_cons_zero, List.set_cons_succ]
                      refine e_step (pc' := 123) hK rfl rfl rfl ?_
                      try simp only [List.set_cons_zero, List.set_cons_succ]
                      refine e_goto (t := 11) hK rfl (by decide) ?_
                      have hkn : px_k (f k) ≠ -1 := by omega
                      have hg : px_g (px f k) (px_k (f k)) = false := hg0 (by omega)
                      obtain ⟨l1, l2, l3⟩ := elast.2 hg
                      have hpb : pab (px f k) k (f k) = true := epab.mpr ⟨hkn, by omega, fun e => by (first | omega | (rw [hg] at e; cases e)), fun e e3 => by (first | omega | (rw [hg] at e; cases e))⟩
                      refine ih (k + 1) _ _ _ _ _ ⟨by omega, lf_s hlf (by rw [erq_k, hpb]; rfl), ?_, Or.inr ⟨by omega, ?_, ?_, ?_⟩⟩
                      · show _ = (px_add (px f k) (f k) k).1; omega
                      · show 0 < (px_add (px f k) (f k) k).1; omega
                      · show _ = (px_add (px f k) (f k) k).2.1 ((px_add (px f k) (f k) k).1 - 1); omega
                      · show (_ = 3 → _ = (px_add (px f k) (f k) k).2.2.2.1 ((px_add (px f k) (f k) k).1 - 1)) ∧ _; omega
                    · replace hb111 := cq_le.2.mp hb111
                      refine e_step (pc' := 116) hK rfl rfl rfl ?_
                      refine e_ret hK rfl rfl rfl ?_
                      have hpb : pab (px f k) k (f k) = false := by { cases e9 : pab (px f k) k (f k) with | false => rfl | true => { have q9 := epab.mp e9; exfalso; first | omega | (have hg : px_g (px f k) (px_k (f k)) = false := hg0 (by omega); obtain ⟨l1, l2, l3⟩ := elast.2 hg; have q3 := q9.2.2.1; have q4 := q9.2.2.2; rw [hg] at q3 q4; simp only [Bool.false_eq_true, false_implies, true_implies, forall_const, imp_false] at q3 q4; omega) } }
                      have eh : lf (erq f) N = k := lf_hit hlf (by rw [erq_k, hpb]; rfl) (by omega)
                      refine ⟨?_, rfl, rfl⟩
                      congr 1
                      unfold er
                      rw [eh, if_neg (by omega)]
          · replace hb67 := cq_eq.2.mp hb67
            refine e_step (pc' := 71) hK rfl rfl rfl ?_
            refine e_goto (t := 86) hK rfl (by decide) ?_
            refine e_step (pc' := 87) hK rfl rfl rfl ?_
            try simp only [List.set_cons_zero, List.set_cons_succ]
            refine e_step (pc' := 89) hK rfl rfl rfl ?_
            refine e_step (pc' := 91) hK rfl rfl rfl ?_
            refine e_icmp (t := 114) (pc' := 94) hK rfl (by omega) (by omega) (by decide) rfl (fun hb91 => ?_) (fun hb91 => ?_)
            · replace hb91 := cq_eq.1.mp hb91
              refine e_step (pc' := 116) hK rfl rfl rfl ?_
              refine e_ret hK rfl rfl rfl ?_
              have hpb : pab (px f k) k (f k) = false := by { cases e9 : pab (px f k) k (f k) with | false => rfl | true => { have q9 := epab.mp e9; exfalso; first | omega | (have hg : px_g (px f k) (px_k (f k)) = false := hg0 (by omega); obtain ⟨l1, l2, l3⟩ := elast.2 hg; have q3 := q9.2.2.1; have q4 := q9.2.2.2; rw [hg] at q3 q4; simp only [Bool.false_eq_true, false_implies, true_implies, forall_const, imp_false] at q3 q4; omega) } }
              have eh : lf (erq f) N = k := lf_hit hlf (by rw [erq_k, hpb]; rfl) (by omega)
              refine ⟨?_, rfl, rfl⟩
              congr 1
              unfold er
              rw [eh, if_neg (by omega)]
            · replace hb91 := cq_eq.2.mp hb91
              refine e_step (pc' := 96) hK rfl rfl rfl ?_
              refine e_step (pc' := 99) hK rfl rfl rfl ?_
              refine e_icmp (t := 114) (pc' := 102) hK rfl (by omega) (by omega) (by decide) rfl (fun hb99 => ?_) (fun hb99 => ?_)
              · replace hb99 := cq_eq.1.mp hb99
                refine e_step (pc' := 116) hK rfl rfl rfl ?_
                refine e_ret hK rfl rfl rfl ?_
                have hpb : pab (px f k) k (f k) = false := by { cases e9 : pab (px f k) k (f k) with | false => rfl | true => { have q9 := epab.mp e9; exfalso; first | omega | (have hg : px_g (px f k) (px_k (f k)) = false := hg0 (by omega); obtain ⟨l1, l2, l3⟩ := elast.2 hg; have q3 := q9.2.2.1; have q4 := q9.2.2.2; rw [hg] at q3 q4; simp only [Bool.false_eq_true, false_implies, true_implies, forall_const, imp_false] at q3 q4; omega) } }
                have eh : lf (erq f) N = k := lf_hit hlf (by rw [erq_k, hpb]; rfl) (by omega)
                refine ⟨?_, rfl, rfl⟩
                congr 1
                unfold er
                rw [eh, if_neg (by omega)]
              · replace hb99 := cq_eq.2.mp hb99
                refine e_step (pc' := 103) hK rfl rfl rfl ?_
                refine e_step (pc' := 105) hK rfl rfl rfl ?_
                refine e_icmp (t := 114) (pc' := 108) hK rfl (by omega) (by omega) (by decide) rfl (fun hb105 => ?_) (fun hb105 => ?_)
                · replace hb105 := cq_gt.1.mp hb105
                  refine e_step (pc' := 116) hK rfl rfl rfl ?_
                  refine e_ret hK rfl rfl rfl ?_
                  have hpb : pab (px f k) k (f k) = false := by { cases e9 : pab (px f k) k (f k) with | false => rfl | true => { have q9 := epab.mp e9; exfalso; first | omega | (have hg : px_g (px f k) (px_k (f k)) = false := hg0 (by omega); obtain ⟨l1, l2, l3⟩ := elast.2 hg; have q3 := q9.2.2.1; have q4 := q9.2.2.2; rw [hg] at q3 q4; simp only [Bool.false_eq_true, false_implies, true_implies, forall_const, imp_false] at q3 q4; omega) } }
                  have eh : lf (erq f) N = k := lf_hit hlf (by rw [erq_k, hpb]; rfl) (by omega)
                  refine ⟨?_, rfl, rfl⟩
                  congr 1
                  unfold er
                  rw [eh, if_neg (by omega)]
                · replace hb105 := cq_gt.2.mp hb105
                  refine e_step (pc' := 109) hK rfl rfl rfl ?_
                  refine e_step (pc' := 111) hK rfl rfl rfl ?_
                  refine e_icmp (t := 117) (pc' := 114) hK rfl (by omega) (by omega) (by decide) rfl (fun hb111 => ?_) (fun hb111 => ?_)
                  · replace hb111 := cq_le.1.mp hb111
                    refine e_step (pc' := 119) hK rfl rfl rfl ?_
                    refine e_step (pc' := 120) hK rfl rfl rfl ?_
                    try simp only [List.set_cons_zero, List.set_cons_succ]
                    refine e_step (pc' := 123) hK rfl rfl rfl ?_
                    try simp only [List.set_cons_zero, List.set_cons_succ]
                    refine e_goto (t := 11) hK rfl (by decide) ?_
                    have hkn : px_k (f k) ≠ -1 := by omega
                    have hg : px_g (px f k) (px_k (f k)) = false := hg0 (by omega)
                    obtain ⟨l1, l2, l3⟩ := elast.2 hg
                    have hpb : pab (px f k) k (f k) = true := epab.mpr ⟨hkn, by omega, fun e => by (first | omega | (rw [hg] at e; cases e)), fun e e3 => by (first | omega | (rw [hg] at e; cases e))⟩
                    refine ih (k + 1) _ _ _ _ _ ⟨by omega, lf_s hlf (by rw [erq_k, hpb]; rfl), ?_, Or.inr ⟨by omega, ?_, ?_, ?_⟩⟩
                    · show _ = (px_add (px f k) (f k) k).1; omega
                    · show 0 < (px_add (px f k) (f k) k).1; omega
                    · show _ = (px_add (px f k) (f k) k).2.1 ((px_add (px f k) (f k) k).1 - 1); omega
                    · show (_ = 3 → _ = (px_add (px f k) (f k) k).2.2.2.1 ((px_add (px f k) (f k) k).1 - 1)) ∧ _; omega
                  · replace hb111 := cq_le.2.mp hb111
                    refine e_step (pc' := 116) hK rfl rfl rfl ?_
                    refine e_ret hK rfl rfl rfl ?_
                    have hpb : pab (px f k) k (f k) = false := by { cases e9 : pab (px f k) k (f k) with | false => rfl | true => { have q9 := epab.mp e9; exfalso; first | omega | (have hg : px_g (px f k) (px_k (f k)) = false := hg0 (by omega); obtain ⟨l1, l2, l3⟩ := elast.2 hg; have q3 := q9.2.2.1; have q4 := q9.2.2.2; rw [hg] at q3 q4; simp only [Bool.false_eq_true, false_implies, true_implies, forall_const, imp_false] at q3 q4; omega) } }
                    have eh : lf (erq f) N = k := lf_hit hlf (by rw [erq_k, hpb]; rfl) (by omega)
                    refine ⟨?_, rfl, rfl⟩
                    congr 1
                    unfold er
                    rw [eh, if_neg (by omega)]
      · replace hb35 := cq_eq.2.mp hb35
        refine e_step (pc' := 40) hK rfl rfl rfl ?_
        refine e_step (pc' := 41) hK rfl rfl rfl ?_
        refine e_icmp (t := 48) (pc' := 44) hK rfl (by omega) (by omega) (by decide) rfl (fun hb41 => ?_) (fun hb41 => ?_)
        · replace hb41 := cq_eq.1.mp hb41
          refine e_step (pc' := 49) hK rfl rfl rfl ?_
          refine e_step (pc' := 51) hK rfl rfl rfl ?_
          try simp only [List.set_cons_zero, List.set_cons_succ]
          refine e_step (pc' := 52) hK rfl rfl rfl ?_
          refine e_step (pc' := 54) hK rfl rfl rfl ?_
          refine e_if (t := 61) (pc' := 57) hK rfl (by omega) (by decide) rfl (fun hb54 => ?_) (fun hb54 => ?_)
          · replace hb54 := cq_eq.1.mp hb54
            refine e_step (pc' := 62) hK rfl rfl rfl ?_
            refine e_step (pc' := 63) hK rfl rfl rfl ?_
            refine e_step (pc' := 64) hK rfl rfl rfl ?_
            try simp only [List.set_cons_zero, List.set_cons_succ]
            refine e_step (pc' := 66) hK rfl rfl rfl ?_
            refine e_step (pc' := 67) hK rfl rfl rfl ?_
            refine e_icmp (t := 74) (pc' := 70) hK rfl (by omega) (by omega) (by decide) rfl (fun hb67 => ?_) (fun hb67 => ?_)
            · replace hb67 := cq_eq.1.mp hb67
              refine e_step (pc' := 76) hK rfl rfl rfl ?_
              refine e_if (t := 83) (pc' := 79) hK rfl (by omega) (by decide) rfl (fun hb76 => ?_) (fun hb76 => ?_)
              · replace hb76 := cq_eq.1.mp hb76
                refine e_step (pc' := 84) hK rfl rfl rfl ?_
                refine e_step (pc' := 85) hK rfl rfl rfl ?_
                refine e_step (pc' := 86) hK rfl rfl rfl ?_
                refine e_step (pc' := 87) hK rfl rfl rfl ?_
                try simp only [List.set_cons_zero, List.set_cons_succ]
                refine e_step (pc' := 89) hK rfl rfl rfl ?_
                refine e_step (pc' := 91) hK rfl rfl rfl ?_
                refine e_icmp (t := 114) (pc' := 94) hK rfl (by omega) (by omega) (by decide) rfl (fun hb91 => ?_) (fun hb91 => ?_)
                · replace hb91 := cq_eq.1.mp hb91
                  refine e_step (pc' := 116) hK rfl rfl rfl ?_
                  refine e_ret hK rfl rfl rfl ?_
                  have hpb : pab (px f k) k (f k) = false := by { cases e9 : pab (px f k) k (f k) with | false => rfl | true => { have q9 := epab.mp e9; exfalso; first | omega | (have hg : px_g (px f k) (px_k (f k)) = true := by { unfold px_g; simp only [Bool.and_eq_true, decide_eq_true_eq]; omega }; obtain ⟨l1, l2, l3⟩ := elast.1 hg; have q3 := q9.2.2.1; have q4 := q9.2.2.2; rw [hg] at q3 q4; simp only [Bool.false_eq_true, false_implies, true_implies, forall_const, imp_false] at q3 q4; omega) } }
                  have eh : lf (erq f) N = k := lf_hit hlf (by rw [erq_k, hpb]; rfl) (by omega)
                  refine ⟨?_, rfl, rfl⟩
                  congr 1
                  unfold er
                  rw [eh, if_neg (by omega)]
                · replace hb91 := cq_eq.2.mp hb91
                  refine e_step (pc' := 96) hK rfl rfl rfl ?_
                  refine e_step (pc' := 99) hK rfl rfl rfl ?_
                  refine e_icmp (t := 114) (pc' := 102) hK rfl (by omega) (by omega) (by decide) rfl (fun hb99 => ?_) (fun hb99 => ?_)
                  · replace hb99 := cq_eq.1.mp hb99
                    refine e_step (pc' := 116) hK rfl rfl rfl ?_
                    refine e_ret hK rfl rfl rfl ?_
                    have hpb : pab (px f k) k (f k) = false := by { cases e9 : pab (px f k) k (f k) with | false => rfl | true => { have q9 := epab.mp e9; exfalso; first | omega | (have hg : px_g (px f k) (px_k (f k)) = true := by { unfold px_g; simp only [Bool.and_eq_true, decide_eq_true_eq]; omega }; obtain ⟨l1, l2, l3⟩ := elast.1 hg; have q3 := q9.2.2.1; have q4 := q9.2.2.2; rw [hg] at q3 q4; simp only [Bool.false_eq_true, false_implies, true_implies, forall_const, imp_false] at q3 q4; omega) } }
                    have eh : lf (erq f) N = k := lf_hit hlf (by rw [erq_k, hpb]; rfl) (by omega)
                    refine ⟨?_, rfl, rfl⟩
                    congr 1
                    unfold er
                    rw [eh, if_neg (by omega)]
                  · replace hb99 := cq_eq.2.mp hb99
                    refine e_step (pc' := 103) hK rfl rfl rfl ?_
                    refine e_step (pc' := 105) hK rfl rfl rfl ?_
                    refine e_icmp (t := 114) (pc' := 108) hK rfl (by omega) (by omega) (by decide) rfl (fun hb105 => ?_) (fun hb105 => ?_)
                    · replace hb105 := cq_gt.1.mp hb105
                      refine e_step (pc' := 116) hK rfl rfl rfl ?_
                      refine e_ret hK rfl rfl rfl ?_
                      have hpb : pab (px f k) k (f k) = false := by { cases e9 : pab (px f k) k (f k) with | false => rfl | true => { have q9 := epab.mp e9; exfalso; first | omega | (have hg : px_g (px f k) (px_k (f k)) = true := by { unfold px_g; simp only [Bool.and_eq_true, decide_eq_true_eq]; omega }; obtain ⟨l1, l2, l3⟩ := elast.1 hg; have q3 := q9.2.2.1; have q4 := q9.2.2.2; rw [hg] at q3 q4; simp only [Bool.false_eq_true, false_implies, true_implies, forall_const, imp_false] at q3 q4; omega) } }
                      have eh : lf (erq f) N = k := lf_hit hlf (by rw [erq_k, hpb]; rfl) (by omega)
                      refine ⟨?_, rfl, rfl⟩
                      congr 1
                      unfold er
                      rw [eh, if_neg (by omega)]
                    · replace hb105 := cq_gt.2.mp hb105
                      refine e_step (pc' := 109) hK rfl rfl rfl ?_
                      refine e_step (pc' := 111) hK rfl rfl rfl ?_
                      refine e_icmp (t := 117) (pc' := 114) hK rfl (by omega) (by omega) (by decide) rfl (fun hb111 => ?_) (fun hb111 => ?_)
                      · replace hb111 := cq_le.1.mp hb111
                        refine e_step (pc' := 119) hK rfl rfl rfl ?_
                        refine e_step (pc' := 120) hK rfl rfl rfl ?_
                        try simp only [List.set_cons_zero, List.set_cons_succ]
                        refine e_step (pc' := 123) hK rfl rfl rfl ?_
                        try simp only [List.set_cons_zero, List.set_cons_succ]
                        refine e_goto (t := 11) hK rfl (by decide) ?_
                        have hkn : px_k (f k) ≠ -1 := by omega
                        have hg : px_g (px f k) (px_k (f k)) = true := by { unfold px_g; simp only [Bool.and_eq_true, decide_eq_true_eq]; omega }
                        obtain ⟨l1, l2, l3⟩ := elast.1 hg
                        have hpb : pab (px f k) k (f k) = true := epab.mpr ⟨hkn, by omega, fun e => by (first | omega | (rw [hg] at e; cases e)), fun e e3 => by (first | omega | (rw [hg] at e; cases e))⟩
                        refine ih (k + 1) _ _ _ _ _ ⟨by omega, lf_s hlf (by rw [erq_k, hpb]; rfl), ?_, Or.inr ⟨by omega, ?_, ?_, ?_⟩⟩
                        · show _ = (px_add (px f k) (f k) k).1; omega
                        · show 0 < (px_add (px f k) (f k) k).1; omega
                        · show _ = (px_add (px f k) (f k) k).2.1 ((px_add (px f k) (f k) k).1 - 1); omega
                        · show (_ = 3 → _ = (px_add (px f k) (f k) k).2.2.2.1 ((px_add (px f k) (f k) k).1 - 1)) ∧ _; omega
                      · replace hb111 := cq_le.2.mp hb111
                        refine e_step (pc' := 116) hK rfl rfl rfl ?_
                        refine e_ret hK rfl rfl rfl ?_
                        have hpb : pab (px f k) k (f k) = false := by { cases e9 : pab (px f k) k (f k) with | false => rfl | true => { have q9 := epab.mp e9; exfalso; first | omega | (have hg : px_g (px f k) (px_k (f k)) = true := by { unfold px_g; simp only [Bool.and_eq_true, decide_eq_true_eq]; omega }; obtain ⟨l1, l2, l3⟩ := elast.1 hg; have q3 := q9.2.2.1; have q4 := q9.2.2.2; rw [hg] at q3 q4; simp only [Bool.false_eq_true, false_implies, true_implies, forall_const, imp_false] at q3 q4; omega) } }
                        have eh : lf (erq f) N = k := lf_hit hlf (by rw [erq_k, hpb]; rfl) (by omega)
                        refine ⟨?_, rfl, rfl⟩
                        congr 1
                        unfold er
                        rw [eh, if_neg (by omega)]
              · replace hb76 := cq_eq.2.mp hb76
                exfalso; first | omega | exact absurd trivial (by assumption)
            · replace hb67 := cq_eq.2.mp hb67
              refine e_step (pc' := 71) hK rfl rfl rfl ?_
              refine e_goto (t := 86) hK rfl (by decide) ?_
              refine e_step (pc' := 87) hK rfl rfl rfl ?_
              try simp only [List.set_cons_zero, List.set_cons_succ]
              refine e_step (pc' := 89) hK rfl rfl rfl ?_
              refine e_step (pc' := 91) hK rfl rfl rfl ?_
              refine e_icmp (t := 114) (pc' := 94) hK rfl (by omega) (by omega) (by decide) rfl (fun hb91 => ?_) (fun hb91 => ?_)
              · replace hb91 := cq_eq.1.mp hb91
                refine e_step (pc' := 116) hK rfl rfl rfl ?_
                refine e_ret hK rfl rfl rfl ?_
                have hpb : pab (px f k) k (f k) = false := by { cases e9 : pab (px f k) k (f k) with | false => rfl | true => { have q9 := epab.mp e9; exfalso; first | omega | (have hg : px_g (px f k) (px_k (f k)) = true := by { unfold px_g; simp only [Bool.and_eq_true, decide_eq_true_eq]; omega }; obtain ⟨l1, l2, l3⟩ := elast.1 hg; have q3 := q9.2.2.1; have q4 := q9.2.2.2; rw [hg] at q3 q4; simp only [Bool.false_eq_true, false_implies, true_implies, forall_const, imp_false] at q3 q4; omega) } }
                have eh : lf (erq f) N = k := lf_hit hlf (by rw [erq_k, hpb]; rfl) (by omega)
                refine ⟨?_, rfl, rfl⟩
                congr 1
                unfold er
                rw [eh, if_neg (by omega)]
              · replace hb91 := cq_eq.2.mp hb91
                refine e_step (pc' := 96) hK rfl rfl rfl ?_
                refine e_step (pc' := 99) hK rfl rfl rfl ?_
                refine e_icmp (t := 114) (pc' := 102) hK rfl (by omega) (by omega) (by decide) rfl (fun hb99 => ?_) (fun hb99 => ?_)
                · replace hb99 := cq_eq.1.mp hb99
                  refine e_step (pc' := 116) hK rfl rfl rfl ?_
                  refine e_ret hK rfl rfl rfl ?_
                  have hpb : pab (px f k) k (f k) = false := by { cases e9 : pab (px f k) k (f k) with | false => rfl | true => { have q9 := epab.mp e9; exfalso; first | omega | (have hg : px_g (px f k) (px_k (f k)) = true := by { unfold px_g; simp only [Bool.and_eq_true, decide_eq_true_eq]; omega }; obtain ⟨l1, l2, l3⟩ := elast.1 hg; have q3 := q9.2.2.1; have q4 := q9.2.2.2; rw [hg] at q3 q4; simp only [Bool.false_eq_true, false_implies, true_implies, forall_const, imp_false] at q3 q4; omega) } }
                  have eh : lf (erq f) N = k := lf_hit hlf (by rw [erq_k, hpb]; rfl) (by omega)
                  refine ⟨?_, rfl, rfl⟩
                  congr 1
                  unfold er
                  rw [eh, if_neg (by omega)]
                · replace hb99 := cq_eq.2.mp hb99
                  refine e_step (pc' := 103) hK rfl rfl rfl ?_
                  refine e_step (pc' := 105) hK rfl rfl rfl ?_
                  refine e_icmp (t := 114) (pc' := 108) hK rfl (by omega) (by omega) (by decide) rfl (fun hb105 => ?_) (fun hb105 => ?_)
                  · replace hb105 := cq_gt.1.mp hb105
                    refine e_step (pc' := 116) hK rfl rfl rfl ?_
                    refine e_ret hK rfl rfl rfl ?_
                    have hpb : pab (px f k) k (f k) = false := by { cases e9 : pab (px f k) k (f k) with | false => rfl | true => { have q9 := epab.mp e9; exfalso; first | omega | (have hg : px_g (px f k) (px_k (f k)) = true := by { unfold px_g; simp only [Bool.and_eq_true, decide_eq_true_eq]; omega }; obtain ⟨l1, l2, l3⟩ := elast.1 hg; have q3 := q9.2.2.1; have q4 := q9.2.2.2; rw [hg] at q3 q4; simp only [Bool.false_eq_true, false_implies, true_implies, forall_const, imp_false] at q3 q4; omega) } }
                    have eh : lf (erq f) N = k := lf_hit hlf (by rw [erq_k, hpb]; rfl) (by omega)
                    refine ⟨?_, rfl, rfl⟩
                    congr 1
                    unfold er
                    rw [eh, if_neg (by omega)]
                  · replace hb105 := cq_gt.2.mp hb105
                    refine e_step (pc' := 109) hK rfl rfl rfl ?_
                    refine e_step (pc' := 111) hK rfl rfl rfl ?_
                    refine e_icmp (t := 117) (pc' := 114) hK rfl (by omega) (by omega) (by decide) rfl (fun hb111 => ?_) (fun hb111 => ?_)
                    · replace hb111 := cq_le.1.mp hb111
                      refine e_step (pc' := 119) hK rfl rfl rfl ?_
                      refine e_step (pc' := 120) hK rfl rfl rfl ?_
                      try simp only [List.set_cons_zero, List.set_cons_succ]
                      refine e_step (pc' := 123) hK rfl rfl rfl ?_
                      try simp only [List.set_cons_zero, List.set_cons_succ]
                      refine e_goto (t := 11) hK rfl (by decide) ?_
                      have hkn : px_k (f k) ≠ -1 := by omega
                      have hg : px_g (px f k) (px_k (f k)) = true := by { unfold px_g; simp only [Bool.and_eq_true, decide_eq_true_eq]; omega }
                      obtain ⟨l1, l2, l3⟩ := elast.1 hg
                      have hpb : pab (px f k) k (f k) = true := epab.mpr ⟨hkn, by omega, fun e => by (first | omega | (rw [hg] at e; cases e)), fun e e3 => by (first | omega | (rw [hg] at e; cases e))⟩
                      refine ih (k + 1) _ _ _ _ _ ⟨by omega, lf_s hlf (by rw [erq_k, hpb]; rfl), ?_, Or.inr ⟨by omega, ?_, ?_, ?_⟩⟩
                      · show _ = (px_add (px f k) (f k) k).1; omega
                      · show 0 < (px_add (px f k) (f k) k).1; omega
                      · show _ = (px_add (px f k) (f k) k).2.1 ((px_add (px f k) (f k) k).1 - 1); omega
                      · show (_ = 3 → _ = (px_add (px f k) (f k) k).2.2.2.1 ((px_add (px f k) (f k) k).1 - 1)) ∧ _; omega
                    · replace hb111 := cq_le.2.mp hb111
                      refine e_step (pc' := 116) hK rfl rfl rfl ?_
                      refine e_ret hK rfl rfl rfl ?_
                      have hpb : pab (px f k) k (f k) = false := by { cases e9 : pab (px f k) k (f k) with | false => rfl | true => { have q9 := epab.mp e9; exfalso; first | omega | (have hg : px_g (px f k) (px_k (f k)) = true := by { unfold px_g; simp only [Bool.and_eq_true, decide_eq_true_eq]; omega }; obtain ⟨l1, l2, l3⟩ := elast.1 hg; have q3 := q9.2.2.1; have q4 := q9.2.2.2; rw [hg] at q3 q4; simp only [Bool.false_eq_true, false_implies, true_implies, forall_const, imp_false] at q3 q4; omega) } }
                      have eh : lf (erq f) N = k := lf_hit hlf (by rw [erq_k, hpb]; rfl) (by omega)
                      refine ⟨?_, rfl, rfl⟩
                      congr 1
                      unfold er
                      rw [eh, if_neg (by omega)]
          · replace hb54 := cq_eq.2.mp hb54
            exfalso; first | omega | exact absurd trivial (by assumption)
        · replace hb41 := cq_eq.2.mp hb41
          refine e_step (pc' := 45) hK rfl rfl rfl ?_
          refine e_goto (t := 49) hK rfl (by decide) ?_
          refine e_step (pc' := 51) hK rfl rfl rfl ?_
          try simp only [List.set_cons_zero, List.set_cons_succ]
          refine e_step (pc' := 52) hK rfl rfl rfl ?_
          refine e_step (pc' := 54) hK rfl rfl rfl ?_
          refine e_if (t := 61) (pc' := 57) hK rfl (by omega) (by decide) rfl (fun hb54 => ?_) (fun hb54 => ?_)
          · replace hb54 := cq_eq.1.mp hb54
            exfalso; first | omega | exact absurd trivial (by assumption)
          · replace hb54 := cq_eq.2.mp hb54
            refine e_step (pc' := 58) hK rfl rfl rfl ?_
            refine e_goto (t := 62) hK rfl (by decide) ?_
            refine e_step (pc' := 63) hK rfl rfl rfl ?_
            refine e_step (pc' := 64) hK rfl rfl rfl ?_
            try simp only [List.set_cons_zero, List.set_cons_succ]
            refine e_step (pc' := 66) hK rfl rfl rfl ?_
            refine e_step (pc' := 67) hK rfl rfl rfl ?_
            refine e_icmp (t := 74) (pc' := 70) hK rfl (by omega) (by omega) (by decide) rfl (fun hb67 => ?_) (fun hb67 => ?_)
            · replace hb67 := cq_eq.1.mp hb67
              refine e_step (pc' := 76) hK rfl rfl rfl ?_
              refine e_if (t := 83) (pc' := 79) hK rfl (by omega) (by decide) rfl (fun hb76 => ?_) (fun hb76 => ?_)
              · replace hb76 := cq_eq.1.mp hb76
                exfalso; first | omega | exact absurd trivial (by assumption)
              · replace hb76 := cq_eq.2.mp hb76
                refine e_step (pc' := 80) hK rfl rfl rfl ?_
                refine e_goto (t := 86) hK rfl (by decide) ?_
                refine e_step (pc' := 87) hK rfl rfl rfl ?_
                try simp only [List.set_cons_zero, List.set_cons_succ]
                refine e_step (pc' := 89) hK rfl rfl rfl ?_
                refine e_step (pc' := 91) hK rfl rfl rfl ?_
                refine e_icmp (t := 114) (pc' := 94) hK rfl (by omega) (by omega) (by decide) rfl (fun hb91 => ?_) (fun hb91 => ?_)
                · replace hb91 := cq_eq.1.mp hb91
                  refine e_step (pc' := 116) hK rfl rfl rfl ?_
                  refine e_ret hK rfl rfl rfl ?_
                  have hpb : pab (px f k) k (f k) = false := by { cases e9 : pab (px f k) k (f k) with | false => rfl | true => { have q9 := epab.mp e9; exfalso; first | omega | (have hg : px_g (px f k) (px_k (f k)) = false := hg0 (by omega); obtain ⟨l1, l2, l3⟩ := elast.2 hg; have q3 := q9.2.2.1; have q4 := q9.2.2.2; rw [hg] at q3 q4; simp only [Bool.false_eq_true, false_implies, true_implies, forall_const, imp_false] at q3 q4; omega) } }
                  have eh : lf (erq f) N = k := lf_hit hlf (by rw [erq_k, hpb]; rfl) (by omega)
                  refine ⟨?_, rfl, rfl⟩
                  congr 1
                  unfold er
                  rw [eh, if_neg (by omega)]
                · replace hb91 := cq_eq.2.mp hb91
                  refine e_step (pc' := 96) hK rfl rfl rfl ?_
                  refine e_step (pc' := 99) hK rfl rfl rfl ?_
                  refine e_icmp (t := 114) (pc' := 102) hK rfl (by omega) (by omega) (by decide) rfl (fun hb99 => ?_) (fun hb99 => ?_)
                  · replace hb99 := cq_eq.1.mp hb99
                    refine e_step (pc' := 116) hK rfl rfl rfl ?_
                    refine e_ret hK rfl rfl rfl ?_
                    have hpb : pab (px f k) k (f k) = false := by { cases e9 : pab (px f k) k (f k) with | false => rfl | true => { have q9 := epab.mp e9; exfalso; first | omega | (have hg : px_g (px f k) (px_k (f k)) = false := hg0 (by omega); obtain ⟨l1, l2, l3⟩ := elast.2 hg; have q3 := q9.2.2.1; have q4 := q9.2.2.2; rw [hg] at q3 q4; simp only [Bool.false_eq_true, false_implies, true_implies, forall_const, imp_false] at q3 q4; omega) } }
                    have eh : lf (erq f) N = k := lf_hit hlf (by rw [erq_k, hpb]; rfl) (by omega)
                    refine ⟨?_, rfl, rfl⟩
                    congr 1
                    unfold er
                    rw [eh, if_neg (by omega)]
                  · replace hb99 := cq_eq.2.mp hb99
                    refine e_step (pc' := 103) hK rfl rfl rfl ?_
                    refine e_step (pc' := 105) hK rfl rfl rfl ?_
                    refine e_icmp (t := 114) (pc' := 108) hK rfl (by omega) (by omega) (by decide) rfl (fun hb105 => ?_) (fun hb105 => ?_)
                    · replace hb105 := cq_gt.1.mp hb105
                      refine e_step (pc' := 116) hK rfl rfl rfl ?_
                      refine e_ret hK rfl rfl rfl ?_
                      have hpb : pab (px f k) k (f k) = false := by { cases e9 : pab (px f k) k (f k) with | false => rfl | true => { have q9 := epab.mp e9; exfalso; first | omega | (have hg : px_g (px f k) (px_k (f k)) = false := hg0 (by omega); obtain ⟨l1, l2, l3⟩ := elast.2 hg; have q3 := q9.2.2.1; have q4 := q9.2.2.2; rw [hg] at q3 q4; simp only [Bool.false_eq_true, false_implies, true_implies, forall_const, imp_false] at q3 q4; omega) } }
                      have eh : lf (erq f) N = k := lf_hit hlf (by rw [erq_k, hpb]; rfl) (by omega)
                      refine ⟨?_, rfl, rfl⟩
                      congr 1
                      unfold er
                      rw [eh, if_neg (by omega)]
                    · replace hb105 := cq_gt.2.mp hb105
                      refine e_step (pc' := 109) hK rfl rfl rfl ?_
                      refine e_step (pc' := 111) hK rfl rfl rfl ?_
                      refine e_icmp (t := 117) (pc' := 114) hK rfl (by omega) (by omega) (by decide) rfl (fun hb111 => ?_) (fun hb111 => ?_)
                      · replace hb111 := cq_le.1.mp hb111
                        refine e_step (pc' := 119) hK rfl rfl rfl ?_
                        refine e_step (pc' := 120) hK rfl rfl rfl ?_
                        try simp only [List.set_cons_zero, List.set_cons_succ]
                        refine e_step (pc' := 123) hK rfl rfl rfl ?_
                        try simp only [List.set_cons_zero, List.set_cons_succ]
                        refine e_goto (t := 11) hK rfl (by decide) ?_
                        have hkn : px_k (f k) ≠ -1 := by omega
                        have hg : px_g (px f k) (px_k (f k)) = false := hg0 (by omega)
                        obtain ⟨l1, l2, l3⟩ := elast.2 hg
                        have hpb : pab (px f k) k (f k) = true := epab.mpr ⟨hkn, by omega, fun e => by (first | omega | (rw [hg] at e; cases e)), fun e e3 => by (first | omega | (rw [hg] at e; cases e))⟩
                        refine ih (k + 1) _ _ _ _ _ ⟨by omega, lf_s hlf (by rw [erq_k, hpb]; rfl), ?_, Or.inr ⟨by omega, ?_, ?_, ?_⟩⟩
                        · show _ = (px_add (px f k) (f k) k).1; omega
                        · show 0 < (px_add (px f k) (f k) k).1; omega
                        · show _ = (px_add (px f k) (f k) k).2.1 ((px_add (px f k) (f k) k).1 - 1); omega
                        · show (_ = 3 → _ = (px_add (px f k) (f k) k).2.2.2.1 ((px_add (px f k) (f k) k).1 - 1)) ∧ _; omega
                      · replace hb111 := cq_le.2.mp hb111
                        refine e_step (pc' := 116) hK rfl rfl rfl ?_
                        refine e_ret hK rfl rfl rfl ?_
                        have hpb : pab (px f k) k (f k) = false := by { cases e9 : pab (px f k) k (f k) with | false => rfl | true => { have q9 := epab.mp e9; exfalso; first | omega | (have hg : px_g (px f k) (px_k (f k)) = false := hg0 (by omega); obtain ⟨l1, l2, l3⟩ := elast.2 hg; have q3 := q9.2.2.1; have q4 := q9.2.2.2; rw [hg] at q3 q4; simp only [Bool.false_eq_true, false_implies, true_implies, forall_const, imp_false] at q3 q4; omega) } }
                        have eh : lf (erq f) N = k := lf_hit hlf (by rw [erq_k, hpb]; rfl) (by omega)
                        refine ⟨?_, rfl, rfl⟩
                        congr 1
                        unfold er
                        rw [eh, if_neg (by omega)]
            · replace hb67 := cq_eq.2.mp hb67
              refine e_step (pc' := 71) hK rfl rfl rfl ?_
              refine e_goto (t := 86) hK rfl (by decide) ?_
              refine e_step (pc' := 87) hK rfl rfl rfl ?_
              try simp only [List.set_cons_zero, List.set_cons_succ]
              refine e_step (pc' := 89) hK rfl rfl rfl ?_
              refine e_step (pc' := 91) hK rfl rfl rfl ?_
              refine e_icmp (t := 114) (pc' := 94) hK rfl (by omega) (by omega) (by decide) rfl (fun hb91 => ?_) (fun hb91 => ?_)
              · replace hb91 := cq_eq.1.mp hb91
                refine e_step (pc' := 116) hK rfl rfl rfl ?_
                refine e_ret hK rfl rfl rfl ?_
                have hpb : pab (px f k) k (f k) = false := by { cases e9 : pab (px f k) k (f k) with | false => rfl | true => { have q9 := epab.mp e9; exfalso; first | omega | (have hg : px_g (px f k) (px_k (f k)) = false := hg0 (by omega); obtain ⟨l1, l2, l3⟩ := elast.2 hg; have q3 := q9.2.2.1; have q4 := q9.2.2.2; rw [hg] at q3 q4; simp only [Bool.false_eq_true, false_implies, true_implies, forall_const, imp_false] at q3 q4; omega) } }
                have eh : lf (erq f) N = k := lf_hit hlf (by rw [erq_k, hpb]; rfl) (by omega)
                refine ⟨?_, rfl, rfl⟩
                congr 1
                unfold er
                rw [eh, if_neg (by omega)]
              · replace hb91 := cq_eq.2.mp hb91
                refine e_step (pc' := 96) hK rfl rfl rfl ?_
                refine e_step (pc' := 99) hK rfl rfl rfl ?_
                refine e_icmp (t := 114) (pc' := 102) hK rfl (by omega) (by omega) (by decide) rfl (fun hb99 => ?_) (fun hb99 => ?_)
                · replace hb99 := cq_eq.1.mp hb99
                  refine e_step (pc' := 116) hK rfl rfl rfl ?_
                  refine e_ret hK rfl rfl rfl ?_
                  have hpb : pab (px f k) k (f k) = false := by { cases e9 : pab (px f k) k (f k) with | false => rfl | true => { have q9 := epab.mp e9; exfalso; first | omega | (have hg : px_g (px f k) (px_k (f k)) = false := hg0 (by omega); obtain ⟨l1, l2, l3⟩ := elast.2 hg; have q3 := q9.2.2.1; have q4 := q9.2.2.2; rw [hg] at q3 q4; simp only [Bool.false_eq_true, false_implies, true_implies, forall_const, imp_false] at q3 q4; omega) } }
                  have eh : lf (erq f) N = k := lf_hit hlf (by rw [erq_k, hpb]; rfl) (by omega)
                  refine ⟨?_, rfl, rfl⟩
                  congr 1
                  unfold er
                  rw [eh, if_neg (by omega)]
                · replace hb99 := cq_eq.2.mp hb99
                  refine e_step (pc' := 103) hK rfl rfl rfl ?_
                  refine e_step (pc' := 105) hK rfl rfl rfl ?_
                  refine e_icmp (t := 114) (pc' := 108) hK rfl (by omega) (by omega) (by decide) rfl (fun hb105 => ?_) (fun hb105 => ?_)
                  · replace hb105 := cq_gt.1.mp hb105
                    refine e_step (pc' := 116) hK rfl rfl rfl ?_
                    refine e_ret hK rfl rfl rfl ?_
                    have hpb : pab (px f k) k (f k) = false := by { cases e9 : pab (px f k) k (f k) with | false => rfl | true => { have q9 := epab.mp e9; exfalso; first | omega | (have hg : px_g (px f k) (px_k (f k)) = false := hg0 (by omega); obtain ⟨l1, l2, l3⟩ := elast.2 hg; have q3 := q9.2.2.1; have q4 := q9.2.2.2; rw [hg] at q3 q4; simp only [Bool.false_eq_true, false_implies, true_implies, forall_const, imp_false] at q3 q4; omega) } }
                    have eh : lf (erq f) N = k := lf_hit hlf (by rw [erq_k, hpb]; rfl) (by omega)
                    refine ⟨?_, rfl, rfl⟩
                    congr 1
                    unfold er
                    rw [eh, if_neg (by omega)]
                  · replace hb105 := cq_gt.2.mp hb105
                    refine e_step (pc' := 109) hK rfl rfl rfl ?_
                    refine e_step (pc' := 111) hK rfl rfl rfl ?_
                    refine e_icmp (t := 117) (pc' := 114) hK rfl (by omega) (by omega) (by decide) rfl (fun hb111 => ?_) (fun hb111 => ?_)
                    · replace hb111 := cq_le.1.mp hb111
                      refine e_step (pc' := 119) hK rfl rfl rfl ?_
                      refine e_step (pc' := 120) hK rfl rfl rfl ?_
                      try simp only [List.set_cons_zero, List.set_cons_succ]
                      refine e_step (pc' := 123) hK rfl rfl rfl ?_
                      try simp only [List.set_cons_zero, List.set_cons_succ]
                      refine e_goto (t := 11) hK rfl (by decide) ?_
                      have hkn : px_k (f k) ≠ -1 := by omega
                      have hg : px_g (px f k) (px_k (f k)) = false := hg0 (by omega)
                      obtain ⟨l1, l2, l3⟩ := elast.2 hg
                      have hpb : pab (px f k) k (f k) = true := epab.mpr ⟨hkn, by omega, fun e => by (first | omega | (rw [hg] at e; cases e)), fun e e3 => by (first | omega | (rw [hg] at e; cases e))⟩
                      refine ih (k + 1) _ _ _ _ _ ⟨by omega, lf_s hlf (by rw [erq_k, hpb]; rfl), ?_, Or.inr ⟨by omega, ?_, ?_, ?_⟩⟩
                      · show _ = (px_add (px f k) (f k) k).1; omega
                      · show 0 < (px_add (px f k) (f k) k).1; omega
                      · show _ = (px_add (px f k) (f k) k).2.1 ((px_add (px f k) (f k) k).1 - 1); omega
                      · show (_ = 3 → _ = (px_add (px f k) (f k) k).2.2.2.1 ((px_add (px f k) (f k) k).1 - 1)) ∧ _; omega
                    · replace hb111 := cq_le.2.mp hb111
                      refine e_step (pc' := 116) hK rfl rfl rfl ?_
                      refine e_ret hK rfl rfl rfl ?_
                      have hpb : pab (px f k) k (f k) = false := by { cases e9 : pab (px f k) k (f k) with | false => rfl | true => { have q9 := epab.mp e9; exfalso; first | omega | (have hg : px_g (px f k) (px_k (f k)) = false := hg0 (by omega); obtain ⟨l1, l2, l3⟩ := elast.2 hg; have q3 := q9.2.2.1; have q4 := q9.2.2.2; rw [hg] at q3 q4; simp only [Bool.false_eq_true, false_implies, true_implies, forall_const, imp_false] at q3 q4; omega) } }
                      have eh : lf (erq f) N = k := lf_hit hlf (by rw [erq_k, hpb]; rfl) (by omega)
                      refine ⟨?_, rfl, rfl⟩
                      congr 1
                      unfold er
                      rw [eh, if_neg (by omega)]
set_option maxRecDepth 10000 in
theorem m_wrong {N : Nat} {f : Int → Int} (hx : TxM v N f) : mv_Cl sc q_Mod_wrong [(2, 264)] c (mH h v) (mv_Rd (0, er N f) c (mH h v)) := by
  show mv_Ev sc 113 0 [(2, 264), (5, 0), (5, 0), (5, 0), (5, 0), (5, 0), (5, 0)] [] c (mH h v) _
  have hK : (mv_m 113).1 = kc_Mod_wrong := rfl
  refine e_step (pc' := 1) hK rfl rfl rfl ?_
  refine e_step (pc' := 2) hK rfl rfl rfl ?_
  try simp only [List.set_cons_zero, List.set_cons_succ]
  refine e_step (pc' := 5) hK rfl rfl rfl ?_
  refine e_step (pc' := 6) hK rfl rfl rfl ?_
  try simp only [List.set_cons_zero, List.set_cons_succ]
  refine e_step (pc' := 7) hK rfl rfl rfl ?_
  refine e_step (pc' := 8) hK rfl rfl rfl ?_
  try simp only [List.set_cons_zero, List.set_cons_succ]
  refine e_step (pc' := 9) hK rfl rfl rfl ?_
  refine e_step (pc' := 11) hK rfl rfl rfl ?_
  try simp only [List.set_cons_zero, List.set_cons_succ]
  exact m_wrong1 hx N 0 0 (-9999) 0 _ _ ⟨by omega, rfl, rfl, Or.inl ⟨rfl, rfl, rfl, rfl⟩⟩
set_option maxRecDepth 10000 in
theorem m_digits1 (x : Int) (hx : 0 ≤ x) (hx2 : mv_i x) : ∀ (m : Nat) (d : Nat), (d + m = 10) → mv_Ev sc 174 7 [(0, x), (0, (d : Int)), (0, px_10 x d)] [] c h (mv_Rd (0, (px_dg x m d : Nat)) c h) := by
  intro m
  induction m with
  | zero =>
    intro d hd
    have b1 := px_10b hx d
    have b2 : d = 10 → px_10 x d = 0 := fun e => by { rw [px_10e hx, e]; have : (10 : Int) ^ 10 = 10000000000 := rfl; rw [this]; omega }
    have hK : (mv_m 174).1 = kc_Mod_digitsOf := rfl
    refine e_step (pc' := 8) hK rfl rfl rfl ?_
    refine e_if (t := 22) (pc' := 11) hK rfl (by omega) (by decide) rfl (fun hb8 => ?_) (fun hb8 => ?_)
    · replace hb8 := cq_le.1.mp hb8
      refine e_step (pc' := 23) hK rfl rfl rfl ?_
      refine e_ret hK rfl rfl rfl ?_
      refine ⟨?_, rfl, rfl⟩
      congr 1
      all_goals (first | rfl | (rw [show px_dg x (m + 1) d = d from if_pos (by omega)]))
    · replace hb8 := cq_le.2.mp hb8
      exfalso; first | omega | exact absurd trivial (by assumption)
  | succ m ih =>
    intro d hd
    have b1 := px_10b hx d
    have b2 : d = 10 → px_10 x d = 0 := fun e => by { rw [px_10e hx, e]; have : (10 : Int) ^ 10 = 10000000000 := rfl; rw [this]; omega }
    have hK : (mv_m 174).1 = kc_Mod_digitsOf := rfl
    refine e_step (pc' := 8) hK rfl rfl rfl ?_
    refine e_if (t := 22) (pc' := 11) hK rfl (by omega) (by decide) rfl (fun hb8 => ?_) (fun hb8 => ?_)
    · replace hb8 := cq_le.1.mp hb8
      refine e_step (pc' := 23) hK rfl rfl rfl ?_
      refine e_ret hK rfl rfl rfl ?_
      refine ⟨?_, rfl, rfl⟩
      congr 1
      all_goals (first | rfl | (rw [show px_dg x (m + 1) d = d from if_pos (by omega)]))
    · replace hb8 := cq_le.2.mp hb8
      refine e_step (pc' := 14) hK rfl rfl rfl ?_
      try simp only [List.set_cons_zero, List.set_cons_succ]
      refine e_step (pc' := 15) hK rfl rfl rfl ?_
      refine e_step (pc' := 17) hK rfl rfl rfl ?_
      refine e_idiv (pc' := 18) hK rfl (by omega) (by omega) (by omega) rfl ?_
      refine e_step (pc' := 19) hK rfl rfl rfl ?_
      try simp only [List.set_cons_zero, List.set_cons_succ]
      refine e_goto (t := 7) hK rfl (by decide) ?_
      have e : px_dg x (m + 1) d = px_dg x m (d + 1) := if_neg (by omega)
      rw [e]
      exact ih (d + 1) (by omega)
set_option maxRecDepth 10000 in
theorem m_digits (x : Int) (hx : 0 ≤ x) (hx2 : mv_i x) : mv_Cl sc q_Mod_digitsOf [(0, x)] c h (mv_Rd (0, dgn x) c h) := by
  show mv_Ev sc 174 0 [(0, x), (5, 0), (5, 0)] [] c h _
  have hK : (mv_m 174).1 = kc_Mod_digitsOf := rfl
  refine e_step (pc' := 1) hK rfl rfl rfl ?_
  refine e_step (pc' := 2) hK rfl rfl rfl ?_
  try simp only [List.set_cons_zero, List.set_cons_succ]
  refine e_step (pc' := 3) hK rfl rfl rfl ?_
  refine e_step (pc' := 5) hK rfl rfl rfl ?_
  refine e_idiv (pc' := 6) hK rfl (by omega) (by omega) (by omega) rfl ?_
  refine e_step (pc' := 7) hK rfl rfl rfl ?_
  try simp only [List.set_cons_zero, List.set_cons_succ]
  exact m_digits1 x hx hx2 9 1 (by omega)
set_option maxRecDepth 10000 in
theorem m_write2 (x : Int) (hx : 0 ≤ x) (hx2 : mv_i x) (D : Nat) (hD : 1 ≤ D ∧ D ≤ 9) (s : Int) (hs : v 264 15 = s) (s0 : 0 ≤ s) (s1 : s + D ≤ 64) : ∀ (m : Nat) (w : mvt) (U a4 : Int), (m ≤ D ∧ U = (if m = 0 then 0 else (10 : Int) ^ (m - 1)) ∧ (∀ b : Int, b ≠ 264 → b ≠ 275 → w b = v b) ∧ (∀ k : Int, k ≠ 15 → w 264 k = v 264 k) ∧ w 264 15 = s + ((D : Int) - m) ∧ ∀ q : Int, w 275 q = if s ≤ q ∧ q < s + ((D : Int) - m) then dgc x (D - 1 - (q - s)) else v 275 q) → mv_Ev sc 175 22 [(2, 264), (0, x), (0, (D : Int)), (0, U), (0, a4)] [] c (mH h w) (fun r c' h' => r = (3, 0) ∧ c' = c ∧ ∃ w, h' = mH h w ∧ (∀ b : Int, b ≠ 264 → b ≠ 275 → w b = v b) ∧ (∀ k : Int, k ≠ 15 → w 264 k = v 264 k) ∧ w 264 15 = s + (D : Int) ∧ ∀ q : Int, w 275 q = if s ≤ q ∧ q < s + D then dgc x (D - 1 - (q - s)) else v 275 q) := by
  intro m
  induction m with
  | zero =>
    intro w U a4 ⟨hm, hU, g1, g2, g3, g4⟩
    have hU0 : U = 0 := hU
    have hK : (mv_m 175).1 = kc_Mod_write := rfl
    refine e_step (pc' := 23) hK rfl rfl rfl ?_
    refine e_if (t := 62) (pc' := 26) hK rfl (by omega) (by decide) rfl (fun hb23 => ?_) (fun hb23 => ?_)
    · replace hb23 := cq_le.1.mp hb23
      refine e_ret hK rfl rfl rfl ?_
      refine ⟨rfl, rfl, w, rfl, g1, g2, by omega, fun q => ?_⟩
      rw [g4 q, show s + ((D : Int) - (0 : Nat)) = s + D from by omega]
    · replace hb23 := cq_le.2.mp hb23
      exfalso; first | omega | exact absurd trivial (by assumption)
  | succ m ih =>
    intro w U a4 ⟨hm, hU, g1, g2, g3, g4⟩
    have hU : U = (10 : Int) ^ m := hU.trans (if_neg (by omega))
    have hp := p10 m (by omega)
    have hq9 : 0 ≤ x.tdiv U ∧ x.tdiv U ≤ x := by { rw [Int.tdiv_eq_ediv_of_nonneg hx]; exact ⟨Int.ediv_nonneg hx (by omega), Int.ediv_le_self _ hx⟩ }
    have hdb := Int.tmod_lt_of_pos (x.tdiv U) (show (0 : Int) < 10 by decide)
    have hK : (mv_m 175).1 = kc_Mod_write := rfl
    refine e_step (pc' := 23) hK rfl rfl rfl ?_
    refine e_if (t := 62) (pc' := 26) hK rfl (by omega) (by decide) rfl (fun hb23 => ?_) (fun hb23 => ?_)
    · replace hb23 := cq_le.1.mp hb23
      exfalso; first | omega | exact absurd trivial (by assumption)
    · replace hb23 := cq_le.2.mp hb23
      refine e_step (pc' := 27) hK rfl rfl rfl ?_
      refine e_getR (ci := 4) (k := 14) (pc' := 30) hK rfl (by simp (disch := omega) only [mH_t64, mH_r1, mH_r3, mH_r4, mH_r5, mH_r6, mH_r8, mH_r9, mH_r10, mH_r11, mH_r12, mH_r14, mH_i0, mH_i2, mH_i7, mH_i13, mH_i15, mH_t71, mH_t, mH_lr, mH_l65, mH_l69, mH_l70, mH_l71, mH_l72, mH_l73, mH_l74, mH_l75, mH_c, g3]) rfl rfl (by decide) (by decide) (by (try simp (disch := omega) only [mH_t64, mH_r1, mH_r3, mH_r4, mH_r5, mH_r6, mH_r8, mH_r9, mH_r10, mH_r11, mH_r12, mH_r14, mH_i0, mH_i2, mH_i7, mH_i13, mH_i15, mH_t71, mH_t, mH_lr, mH_l65, mH_l69, mH_l70, mH_l71, mH_l72, mH_l73, mH_l74, mH_l75, mH_c, g3]); omega) rfl ?_
      try simp (disch := omega) only [mH_t64, mH_r1, mH_r3, mH_r4, mH_r5, mH_r6, mH_r8, mH_r9, mH_r10, mH_r11, mH_r12, mH_r14, mH_i0, mH_i2, mH_i7, mH_i13, mH_i15, mH_t71, mH_t, mH_lr, mH_l65, mH_l69, mH_l70, mH_l71, mH_l72, mH_l73, mH_l74, mH_l75, mH_c, g3]
      refine e_step (pc' := 31) hK rfl rfl rfl ?_
      refine e_getI (ci := 4) (k := 15) (pc' := 34) hK rfl (by simp (disch := omega) only [mH_t64, mH_r1, mH_r3, mH_r4, mH_r5, mH_r6, mH_r8, mH_r9, mH_r10, mH_r11, mH_r12, mH_r14, mH_i0, mH_i2, mH_i7, mH_i13, mH_i15, mH_t71, mH_t, mH_lr, mH_l65, mH_l69, mH_l70, mH_l71, mH_l72, mH_l73, mH_l74, mH_l75, mH_c, g3]) rfl rfl (by decide) (by decide) rfl ?_
      try simp (disch := omega) only [mH_t64, mH_r1, mH_r3, mH_r4, mH_r5, mH_r6, mH_r8, mH_r9, mH_r10, mH_r11, mH_r12, mH_r14, mH_i0, mH_i2, mH_i7, mH_i13, mH_i15, mH_t71, mH_t, mH_lr, mH_l65, mH_l69, mH_l70, mH_l71, mH_l72, mH_l73, mH_l74, mH_l75, mH_c, g3]
      refine e_step (pc' := 36) hK rfl rfl rfl ?_
      refine e_step (pc' := 37) hK rfl rfl rfl ?_
      refine e_step (pc' := 38) hK rfl rfl rfl ?_
      refine e_idiv (pc' := 39) hK rfl (by omega) (by omega) (by omega) rfl ?_
      refine e_step (pc' := 41) hK rfl rfl rfl ?_
      refine e_irem (pc' := 42) hK rfl (by omega) (by omega) (by omega) rfl ?_
      refine e_step (pc' := 43) hK rfl rfl rfl ?_
      refine e_iast (pc' := 44) hK rfl (by simp (disch := omega) only [mH_t64, mH_r1, mH_r3, mH_r4, mH_r5, mH_r6, mH_r8, mH_r9, mH_r10, mH_r11, mH_r12, mH_r14, mH_i0, mH_i2, mH_i7, mH_i13, mH_i15, mH_t71, mH_t, mH_lr, mH_l65, mH_l69, mH_l70, mH_l71, mH_l72, mH_l73, mH_l74, mH_l75, mH_c, g3]) (by omega) (by (try simp (disch := omega) only [mH_t64, mH_r1, mH_r3, mH_r4, mH_r5, mH_r6, mH_r8, mH_r9, mH_r10, mH_r11, mH_r12, mH_r14, mH_i0, mH_i2, mH_i7, mH_i13, mH_i15, mH_t71, mH_t, mH_lr, mH_l65, mH_l69, mH_l70, mH_l71, mH_l72, mH_l73, mH_l74, mH_l75, mH_c, g3]); omega) rfl ?_
      simp (disch := omega) only [mW_0, mW_2, mW_7, mW_13, mW_15, mW_a, gu_s, gu_n]
      refine e_step (pc' := 45) hK rfl rfl rfl ?_
      refine e_step (pc' := 46) hK rfl rfl rfl ?_
      refine e_getI (ci := 4) (k := 15) (pc' := 49) hK rfl (by simp (disch := omega) only [mH_t64, mH_r1, mH_r3, mH_r4, mH_r5, mH_r6, mH_r8, mH_r9, mH_r10, mH_r11, mH_r12, mH_r14, mH_i0, mH_i2, mH_i7, mH_i13, mH_i15, mH_t71, mH_t, mH_lr, mH_l65, mH_l69, mH_l70, mH_l71, mH_l72, mH_l73, mH_l74, mH_l75, mH_c, g3]) rfl rfl (by decide) (by decide) rfl ?_
      try simp (disch := omega) only [mH_t64, mH_r1, mH_r3, mH_r4, mH_r5, mH_r6, mH_r8, mH_r9, mH_r10, mH_r11, mH_r12, mH_r14, mH_i0, mH_i2, mH_i7, mH_i13, mH_i15, mH_t71, mH_t, mH_lr, mH_l65, mH_l69, mH_l70, mH_l71, mH_l72, mH_l73, mH_l74, mH_l75, mH_c, g3]
      refine e_step (pc' := 50) hK rfl rfl rfl ?_
      refine e_step (pc' := 51) hK rfl rfl rfl ?_
      refine e_put (ci := 4) (k := 15) (pc' := 54) hK rfl (by simp (disch := omega) only [mH_t64, mH_r1, mH_r3, mH_r4, mH_r5, mH_r6, mH_r8, mH_r9, mH_r10, mH_r11, mH_r12, mH_r14, mH_i0, mH_i2, mH_i7, mH_i13, mH_i15, mH_t71, mH_t, mH_lr, mH_l65, mH_l69, mH_l70, mH_l71, mH_l72, mH_l73, mH_l74, mH_l75, mH_c, g3]) rfl rfl (by decide) rfl rfl ?_
      simp (disch := omega) only [mW_0, mW_2, mW_7, mW_13, mW_15, mW_a, gu_s, gu_n]
      refine e_step (pc' := 55) hK rfl rfl rfl ?_
      refine e_step (pc' := 57) hK rfl rfl rfl ?_
      refine e_idiv (pc' := 58) hK rfl (by omega) (by omega) (by omega) rfl ?_
      refine e_step (pc' := 59) hK rfl rfl rfl ?_
      try simp only [List.set_cons_zero, List.set_cons_succ]
      refine e_goto (t := 22) hK rfl (by decide) ?_
      refine ih _ _ _ ⟨by omega, ?_, fun b n1 n2 => by rw [gu_n n1, gu_n n2]; exact g1 b n1 n2, fun k n1 => ?_, ?_, fun q => ?_⟩
      · by_cases e : m = 0
        · subst e; rw [if_pos rfl, hU]; rfl
        · rw [if_neg e, hU]; exact (congrArg (fun k : Nat => ((10 : Int) ^ k).tdiv 10) (show m = m - 1 + 1 by omega)).trans (p10_d _)
      · rw [gu_s, up_n n1]; first | exact g2 k n1 | (rw [gu_n (by omega)]; exact g2 k n1)
      · rw [gu_s, up_s]; omega
      · rw [gu_n (by omega), gu_s]
        by_cases e : q = s + ((D : Int) - ((m + 1 : Nat) : Int))
        · rw [e, up_s, if_pos (by omega), hU, dgc_e hx (by omega)]
          exact congrArg (dgc x) (by omega)
        · rw [up_n e, g4 q]
          by_cases e2 : s ≤ q ∧ q < s + ((D : Int) - ((m + 1 : Nat) : Int))
          · rw [if_pos e2, if_pos (by omega)]
          · rw [if_neg e2, if_neg (by omega)]
set_option maxRecDepth 10000 in
theorem m_write1 (x : Int) (hx : 0 ≤ x) (hx2 : mv_i x) (D : Nat) (hD : 1 ≤ D ∧ D ≤ 9) (s : Int) (hs : v 264 15 = s) (s0 : 0 ≤ s) (s1 : s + D ≤ 64) : ∀ (m : Nat) (j : Nat), (j + m + 1 = D) → mv_Ev sc 175 5 [(2, 264), (0, x), (0, (D : Int)), (0, (10 : Int) ^ j), (0, (j : Int) + 1)] [] c (mH h v) (fun r c' h' => r = (3, 0) ∧ c' = c ∧ ∃ w, h' = mH h w ∧ (∀ b : Int, b ≠ 264 → b ≠ 275 → w b = v b) ∧ (∀ k : Int, k ≠ 15 → w 264 k = v 264 k) ∧ w 264 15 = s + (D : Int) ∧ ∀ q : Int, w 275 q = if s ≤ q ∧ q < s + D then dgc x (D - 1 - (q - s)) else v 275 q) := by
  intro m
  induction m with
  | zero =>
    intro j hj
    have hK : (mv_m 175).1 = kc_Mod_write := rfl
    refine e_step (pc' := 7) hK rfl rfl rfl ?_
    refine e_step (pc' := 8) hK rfl rfl rfl ?_
    refine e_icmp (t := 22) (pc' := 11) hK rfl (by omega) (by omega) (by decide) rfl (fun hb8 => ?_) (fun hb8 => ?_)
    · replace hb8 := cq_ge.1.mp hb8
      refine m_write2 x hx hx2 D hD s hs s0 s1 D v _ _ ⟨Nat.le_refl _, ?_, fun b _ _ => rfl, fun k _ => rfl, by omega, fun q => by rw [if_neg (by omega)]⟩
      rw [if_neg (by omega), show D - 1 = j from by omega]
    · replace hb8 := cq_ge.2.mp hb8
      exfalso; first | omega | exact absurd trivial (by assumption)
  | succ m ih =>
    intro j hj
    have hK : (mv_m 175).1 = kc_Mod_write := rfl
    refine e_step (pc' := 7) hK rfl rfl rfl ?_
    refine e_step (pc' := 8) hK rfl rfl rfl ?_
    refine e_icmp (t := 22) (pc' := 11) hK rfl (by omega) (by omega) (by decide) rfl (fun hb8 => ?_) (fun hb8 => ?_)
    · replace hb8 := cq_ge.1.mp hb8
      exfalso; first | omega | exact absurd trivial (by assumption)
    · replace hb8 := cq_ge.2.mp hb8
      refine e_step (pc' := 12) hK rfl rfl rfl ?_
      refine e_step (pc' := 14) hK rfl rfl rfl ?_
      refine e_step (pc' := 15) hK rfl rfl rfl ?_
      refine e_step (pc' := 16) hK rfl rfl rfl ?_
      try simp only [List.set_cons_zero, List.set_cons_succ]
      refine e_step (pc' := 19) hK rfl rfl rfl ?_
      try simp only [List.set_cons_zero, List.set_cons_succ]
      refine e_goto (t := 5) hK rfl (by decide) ?_
      rw [show (10 : Int) ^ j * 10 = 10 ^ (j + 1) from (Int.pow_succ _ _).symm]
      exact ih (j + 1) (by omega)
set_option maxRecDepth 10000 in
theorem m_write (x : Int) (hx : 0 ≤ x) (hx2 : mv_i x) (D : Nat) (hD : 1 ≤ D ∧ D ≤ 9) (s : Int) (hs : v 264 15 = s) (s0 : 0 ≤ s) (s1 : s + D ≤ 64) : mv_Cl sc q_Mod_write [(2, 264), (0, x), (0, (D : Int))] c (mH h v) (fun r c' h' => r = (3, 0) ∧ c' = c ∧ ∃ w, h' = mH h w ∧ (∀ b : Int, b ≠ 264 → b ≠ 275 → w b = v b) ∧ (∀ k : Int, k ≠ 15 → w 264 k = v 264 k) ∧ w 264 15 = s + (D : Int) ∧ ∀ q : Int, w 275 q = if s ≤ q ∧ q < s + D then dgc x (D - 1 - (q - s)) else v 275 q) := by
  show mv_Ev sc 175 0 [(2, 264), (0, x), (0, (D : Int)), (5, 0), (5, 0)] [] c (mH h v) _
  have hK : (mv_m 175).1 = kc_Mod_write := rfl
  refine e_step (pc' := 1) hK rfl rfl rfl ?_
  refine e_step (pc' := 2) hK rfl rfl rfl ?_
  try simp only [List.set_cons_zero, List.set_cons_succ]
  refine e_step (pc' := 3) hK rfl rfl rfl ?_
  refine e_step (pc' := 5) hK rfl rfl rfl ?_
  try simp only [List.set_cons_zero, List.set_cons_succ]
  exact m_write1 x hx hx2 D hD s hs s0 s1 (D - 1) 0 (by omega)
set_option maxRecDepth 10000 in
theorem m_laySign (x : Int) (s : Int) (hs : v 264 15 = s) (s0 : 0 ≤ s) (s1 : s < 64) : mv_Cl sc q_Mod_laySign [(2, 264), (0, x)] c (mH h v) (fun r c' h' => r = (3, 0) ∧ c' = c ∧ ∃ w, h' = mH h w ∧ (∀ b : Int, b ≠ 264 → b ≠ 275 → w b = v b) ∧ (∀ k : Int, k ≠ 15 → w 264 k = v 264 k) ∧ w 264 15 = s + 1 ∧ ∀ q : Int, w 275 q = if q = s then x else v 275 q) := by
  show mv_Ev sc 181 0 [(2, 264), (0, x)] [] c (mH h v) _
  have hK : (mv_m 181).1 = kc_Mod_laySign := rfl
  refine e_step (pc' := 1) hK rfl rfl rfl ?_
  refine e_getR (ci := 4) (k := 14) (pc' := 4) hK rfl (by simp (disch := omega) only [mH_t64, mH_r1, mH_r3, mH_r4, mH_r5, mH_r6, mH_r8, mH_r9, mH_r10, mH_r11, mH_r12, mH_r14, mH_i0, mH_i2, mH_i7, mH_i13, mH_i15, mH_t71, mH_t, mH_lr, mH_l65, mH_l69, mH_l70, mH_l71, mH_l72, mH_l73, mH_l74, mH_l75, mH_c, hs]) rfl rfl (by decide) (by decide) (by (try simp (disch := omega) only [mH_t64, mH_r1, mH_r3, mH_r4, mH_r5, mH_r6, mH_r8, mH_r9, mH_r10, mH_r11, mH_r12, mH_r14, mH_i0, mH_i2, mH_i7, mH_i13, mH_i15, mH_t71, mH_t, mH_lr, mH_l65, mH_l69, mH_l70, mH_l71, mH_l72, mH_l73, mH_l74, mH_l75, mH_c, hs]); omega) rfl ?_
  try simp (disch := omega) only [mH_t64, mH_r1, mH_r3, mH_r4, mH_r5, mH_r6, mH_r8, mH_r9, mH_r10, mH_r11, mH_r12, mH_r14, mH_i0, mH_i2, mH_i7, mH_i13, mH_i15, mH_t71, mH_t, mH_lr, mH_l65, mH_l69, mH_l70, mH_l71, mH_l72, mH_l73, mH_l74, mH_l75, mH_c, hs]
  refine e_step (pc' := 5) hK rfl rfl rfl ?_
  refine e_getI (ci := 4) (k := 15) (pc' := 8) hK rfl (by simp (disch := omega) only [mH_t64, mH_r1, mH_r3, mH_r4, mH_r5, mH_r6, mH_r8, mH_r9, mH_r10, mH_r11, mH_r12, mH_r14, mH_i0, mH_i2, mH_i7, mH_i13, mH_i15, mH_t71, mH_t, mH_lr, mH_l65, mH_l69, mH_l70, mH_l71, mH_l72, mH_l73, mH_l74, mH_l75, mH_c, hs]) rfl rfl (by decide) (by decide) rfl ?_
  try simp (disch := omega) only [mH_t64, mH_r1, mH_r3, mH_r4, mH_r5, mH_r6, mH_r8, mH_r9, mH_r10, mH_r11, mH_r12, mH_r14, mH_i0, mH_i2, mH_i7, mH_i13, mH_i15, mH_t71, mH_t, mH_lr, mH_l65, mH_l69, mH_l70, mH_l71, mH_l72, mH_l73, mH_l74, mH_l75, mH_c, hs]
  refine e_step (pc' := 9) hK rfl rfl rfl ?_
  refine e_iast (pc' := 10) hK rfl (by simp (disch := omega) only [mH_t64, mH_r1, mH_r3, mH_r4, mH_r5, mH_r6, mH_r8, mH_r9, mH_r10, mH_r11, mH_r12, mH_r14, mH_i0, mH_i2, mH_i7, mH_i13, mH_i15, mH_t71, mH_t, mH_lr, mH_l65, mH_l69, mH_l70, mH_l71, mH_l72, mH_l73, mH_l74, mH_l75, mH_c, hs]) (by omega) (by (try simp (disch := omega) only [mH_t64, mH_r1, mH_r3, mH_r4, mH_r5, mH_r6, mH_r8, mH_r9, mH_r10, mH_r11, mH_r12, mH_r14, mH_i0, mH_i2, mH_i7, mH_i13, mH_i15, mH_t71, mH_t, mH_lr, mH_l65, mH_l69, mH_l70, mH_l71, mH_l72, mH_l73, mH_l74, mH_l75, mH_c, hs]); omega) rfl ?_
  simp (disch := omega) only [mW_0, mW_2, mW_7, mW_13, mW_15, mW_a, gu_s, gu_n]
  refine e_step (pc' := 11) hK rfl rfl rfl ?_
  refine e_step (pc' := 12) hK rfl rfl rfl ?_
  refine e_getI (ci := 4) (k := 15) (pc' := 15) hK rfl (by simp (disch := omega) only [mH_t64, mH_r1, mH_r3, mH_r4, mH_r5, mH_r6, mH_r8, mH_r9, mH_r10, mH_r11, mH_r12, mH_r14, mH_i0, mH_i2, mH_i7, mH_i13, mH_i15, mH_t71, mH_t, mH_lr, mH_l65, mH_l69, mH_l70, mH_l71, mH_l72, mH_l73, mH_l74, mH_l75, mH_c, hs]) rfl rfl (by decide) (by decide) rfl ?_
  try simp (disch := omega) only [mH_t64, mH_r1, mH_r3, mH_r4, mH_r5, mH_r6, mH_r8, mH_r9, mH_r10, mH_r11, mH_r12, mH_r14, mH_i0, mH_i2, mH_i7, mH_i13, mH_i15, mH_t71, mH_t, mH_lr, mH_l65, mH_l69, mH_l70, mH_l71, mH_l72, mH_l73, mH_l74, mH_l75, mH_c, hs]
  refine e_step (pc' := 16) hK rfl rfl rfl ?_
  refine e_step (pc' := 17) hK rfl rfl rfl ?_
  refine e_put (ci := 4) (k := 15) (pc' := 20) hK rfl (by simp (disch := omega) only [mH_t64, mH_r1, mH_r3, mH_r4, mH_r5, mH_r6, mH_r8, mH_r9, mH_r10, mH_r11, mH_r12, mH_r14, mH_i0, mH_i2, mH_i7, mH_i13, mH_i15, mH_t71, mH_t, mH_lr, mH_l65, mH_l69, mH_l70, mH_l71, mH_l72, mH_l73, mH_l74, mH_l75, mH_c, hs]) rfl rfl (by decide) rfl rfl ?_
  simp (disch := omega) only [mW_0, mW_2, mW_7, mW_13, mW_15, mW_a, gu_s, gu_n]
  refine e_ret hK rfl rfl rfl ?_
  refine ⟨rfl, rfl, _, rfl, fun b n1 n2 => by rw [gu_n n1, gu_n n2], fun k n1 => ?_, ?_, fun q => ?_⟩
  · rw [gu_s, up_n n1]; try rw [gu_n (by omega)]
  · rw [gu_s, up_s, hs]
  · rw [gu_n (by omega), gu_s]; rfl
set_option maxRecDepth 10000 in
theorem m_layDigits (x : Int) (hx : 0 ≤ x) (hx2 : mv_i x) (D : Nat) (hDx : dgn x = D) (hD : D ≤ 9) (s : Int) (hs : v 264 15 = s) (s0 : 0 ≤ s) (s1 : s + D ≤ 64) : mv_Cl sc q_Mod_layDigits [(2, 264), (0, x)] c (mH h v) (fun r c' h' => r = (3, 0) ∧ c' = c ∧ ∃ w, h' = mH h w ∧ (∀ b : Int, b ≠ 264 → b ≠ 275 → w b = v b) ∧ (∀ k : Int, k ≠ 15 → w 264 k = v 264 k) ∧ w 264 15 = s + (D : Int) ∧ ∀ q : Int, w 275 q = if s ≤ q ∧ q < s + D then dgc x (D - 1 - (q - s)) else v 275 q) := by
  show mv_Ev sc 182 0 [(2, 264), (0, x)] [] c (mH h v) _
  have hK : (mv_m 182).1 = kc_Mod_layDigits := rfl
  refine e_step (pc' := 1) hK rfl rfl rfl ?_
  refine e_step (pc' := 2) hK rfl rfl rfl ?_
  refine e_step (pc' := 3) hK rfl rfl rfl ?_
  refine e_cRS1 (z := 174) (pc' := 6) hK rfl rfl rfl (Nat.le_of_ble_eq_true rfl) (Nat.le_of_ble_eq_true rfl) (m_digits x hx hx2) (by decide) rfl ?_
  try simp (disch := omega) only [mH_t64, mH_r1, mH_r3, mH_r4, mH_r5, mH_r6, mH_r8, mH_r9, mH_r10, mH_r11, mH_r12, mH_r14, mH_i0, mH_i2, mH_i7, mH_i13, mH_i15, mH_t71, mH_t, mH_lr, mH_l65, mH_l69, mH_l70, mH_l71, mH_l72, mH_l73, mH_l74, mH_l75, mH_c]
  rw [hDx]
  refine e_cQV3 (z := 175) hK rfl rfl (by first | (simp (disch := omega) only [mH_t64, mH_r1, mH_r3, mH_r4, mH_r5, mH_r6, mH_r8, mH_r9, mH_r10, mH_r11, mH_r12, mH_r14, mH_i0, mH_i2, mH_i7, mH_i13, mH_i15, mH_t71, mH_t, mH_lr, mH_l65, mH_l69, mH_l70, mH_l71, mH_l72, mH_l73, mH_l74, mH_l75, mH_c]; rfl) | (show _ = 2; assumption) | (show _ = 1; assumption) | (show _ = 0; assumption) | (show _ = 3; assumption) | (show _ = 4; assumption)) rfl (Nat.le_of_ble_eq_true rfl) (Nat.le_of_ble_eq_true rfl) (m_write x hx hx2 D ⟨by have := (dgn_b x).1; omega, hD⟩ s hs s0 s1) ?_
  rintro _ _ _ ⟨rfl, rfl, w, rfl, g1, g2, g3, g4⟩
  refine ⟨by decide, ?_⟩
  rw [if_pos rfl]
  try dsimp only
  show mv_Ev _ _ 9 _ _ _ _ _
  refine e_ret hK rfl rfl rfl ?_
  exact ⟨rfl, rfl, w, rfl, g1, g2, g3, g4⟩
set_option maxRecDepth 10000 in
theorem m_rem1 {n : Nat} {g : Int → lg} {A : lg} (hh : HdR v n g) (hR : Rw (v 266) A) (hI : gI A) (hn14 : n = 14) : ∀ (m : Nat) (k : Nat) (w : mvt), (k + m = 15873 ∧ (∀ b : Int, b ≠ 269 → w b = v b) ∧ ∀ q : Int, w 269 q = if 0 ≤ q ∧ q < k then v 269 (q + 1221) else v 269 q) → mv_Ev sc 150 11 [(2, 264), (0, (k : Int))] [] c (mH h w) (fun r c' h' => r = (3, 0) ∧ c' = c ∧ ∃ w, h' = mH h w ∧ (∀ b : Int, b ≠ 264 → b ≠ 269 → w b = v b) ∧ (∀ k : Int, k ≠ 7 → w 264 k = v 264 k) ∧ HdR w (hs_n n) (hs_g n g A)) := by
  intro m
  induction m with
  | zero =>
    intro k w ⟨hk, hw, g1⟩
    obtain ⟨hn, z7, hg⟩ := hh
    have w64 : w 264 = v 264 := hw 264 (by omega)
    have z14 : v 264 7 = 14 := by { rw [z7]; omega }
    have hK : (mv_m 150).1 = kc_Mod_remember := rfl
    refine e_step (pc' := 12) hK rfl rfl rfl ?_
    refine e_step (pc' := 15) hK rfl rfl rfl ?_
    refine e_icmp (t := 40) (pc' := 18) hK rfl (by omega) (by omega) (by decide) rfl (fun hb15 => ?_) (fun hb15 => ?_)
    · replace hb15 := cq_ge.1.mp hb15
      have hn3 : ((n : Nat) : Int) = 14 := by omega
      have w647 : w 264 7 = 14 := by { rw [w64, z7]; exact hn3 }
      refine e_step (pc' := 41) hK rfl rfl rfl ?_
      refine e_step (pc' := 42) hK rfl rfl rfl ?_
      refine e_getI (ci := 4) (k := 7) (pc' := 45) hK rfl (by simp (disch := omega) only [mH_t64, mH_r1, mH_r3, mH_r4, mH_r5, mH_r6, mH_r8, mH_r9, mH_r10, mH_r11, mH_r12, mH_r14, mH_i0, mH_i2, mH_i7, mH_i13, mH_i15, mH_t71, mH_t, mH_lr, mH_l65, mH_l69, mH_l70, mH_l71, mH_l72, mH_l73, mH_l74, mH_l75, mH_c, w64, z14, gu_s, up_s]) rfl rfl (by decide) (by decide) rfl ?_
      try simp (disch := omega) only [mH_t64, mH_r1, mH_r3, mH_r4, mH_r5, mH_r6, mH_r8, mH_r9, mH_r10, mH_r11, mH_r12, mH_r14, mH_i0, mH_i2, mH_i7, mH_i13, mH_i15, mH_t71, mH_t, mH_lr, mH_l65, mH_l69, mH_l70, mH_l71, mH_l72, mH_l73, mH_l74, mH_l75, mH_c, w64, z14, gu_s, up_s]
      refine e_step (pc' := 46) hK rfl rfl rfl ?_
      refine e_step (pc' := 47) hK rfl rfl rfl ?_
      refine e_put (ci := 4) (k := 7) (pc' := 50) hK rfl (by simp (disch := omega) only [mH_t64, mH_r1, mH_r3, mH_r4, mH_r5, mH_r6, mH_r8, mH_r9, mH_r10, mH_r11, mH_r12, mH_r14, mH_i0, mH_i2, mH_i7, mH_i13, mH_i15, mH_t71, mH_t, mH_lr, mH_l65, mH_l69, mH_l70, mH_l71, mH_l72, mH_l73, mH_l74, mH_l75, mH_c, w64, z14, gu_s, up_s]) rfl rfl (by decide) rfl rfl ?_
      simp (disch := omega) only [mW_0, mW_2, mW_7, mW_13, mW_15, mW_a, gu_s]
      show mv_Ev sc 150 50 [(2, 264), _] [] c (mH h (gu w 264 (mv_up _ 7 _))) _
      refine e_step (pc' := 51) hK rfl rfl rfl ?_
      refine e_getR (ci := 4) (k := 3) (pc' := 54) hK rfl (by simp (disch := omega) only [mH_t64, mH_r1, mH_r3, mH_r4, mH_r5, mH_r6, mH_r8, mH_r9, mH_r10, mH_r11, mH_r12, mH_r14, mH_i0, mH_i2, mH_i7, mH_i13, mH_i15, mH_t71, mH_t, mH_lr, mH_l65, mH_l69, mH_l70, mH_l71, mH_l72, mH_l73, mH_l74, mH_l75, mH_c, w64, z14, gu_s, up_s]) rfl rfl (by decide) (by decide) (by (try simp (disch := omega) only [mH_t64, mH_r1, mH_r3, mH_r4, mH_r5, mH_r6, mH_r8, mH_r9, mH_r10, mH_r11, mH_r12, mH_r14, mH_i0, mH_i2, mH_i7, mH_i13, mH_i15, mH_t71, mH_t, mH_lr, mH_l65, mH_l69, mH_l70, mH_l71, mH_l72, mH_l73, mH_l74, mH_l75, mH_c, w64, z14, gu_s, up_s]); omega) rfl ?_
      try simp (disch := omega) only [mH_t64, mH_r1, mH_r3, mH_r4, mH_r5, mH_r6, mH_r8, mH_r9, mH_r10, mH_r11, mH_r12, mH_r14, mH_i0, mH_i2, mH_i7, mH_i13, mH_i15, mH_t71, mH_t, mH_lr, mH_l65, mH_l69, mH_l70, mH_l71, mH_l72, mH_l73, mH_l74, mH_l75, mH_c, w64, z14, gu_s, up_s]
      refine e_step (pc' := 55) hK rfl rfl rfl ?_
      refine e_step (pc' := 56) hK rfl rfl rfl ?_
      refine e_getR (ci := 4) (k := 6) (pc' := 59) hK rfl (by simp (disch := omega) only [mH_t64, mH_r1, mH_r3, mH_r4, mH_r5, mH_r6, mH_r8, mH_r9, mH_r10, mH_r11, mH_r12, mH_r14, mH_i0, mH_i2, mH_i7, mH_i13, mH_i15, mH_t71, mH_t, mH_lr, mH_l65, mH_l69, mH_l70, mH_l71, mH_l72, mH_l73, mH_l74, mH_l75, mH_c, w64, z14, gu_s, up_s]) rfl rfl (by decide) (by decide) (by (try simp (disch := omega) only [mH_t64, mH_r1, mH_r3, mH_r4, mH_r5, mH_r6, mH_r8, mH_r9, mH_r10, mH_r11, mH_r12, mH_r14, mH_i0, mH_i2, mH_i7, mH_i13, mH_i15, mH_t71, mH_t, mH_lr, mH_l65, mH_l69, mH_l70, mH_l71, mH_l72, mH_l73, mH_l74, mH_l75, mH_c, w64, z14, gu_s, up_s]); omega) rfl ?_
      try simp (disch := omega) only [mH_t64, mH_r1, mH_r3, mH_r4, mH_r5, mH_r6, mH_r8, mH_r9, mH_r10, mH_r11, mH_r12, mH_r14, mH_i0, mH_i2, mH_i7, mH_i13, mH_i15, mH_t71, mH_t, mH_lr, mH_l65, mH_l69, mH_l70, mH_l71, mH_l72, mH_l73, mH_l74, mH_l75, mH_c, w64, z14, gu_s, up_s]
      refine e_step (pc' := 62) hK rfl rfl rfl ?_
      refine e_step (pc' := 63) hK rfl rfl rfl ?_
      refine e_getI (ci := 4) (k := 7) (pc' := 66) hK rfl (by simp (disch := omega) only [mH_t64, mH_r1, mH_r3, mH_r4, mH_r5, mH_r6, mH_r8, mH_r9, mH_r10, mH_r11, mH_r12, mH_r14, mH_i0, mH_i2, mH_i7, mH_i13, mH_i15, mH_t71, mH_t, mH_lr, mH_l65, mH_l69, mH_l70, mH_l71, mH_l72, mH_l73, mH_l74, mH_l75, mH_c, w64, z14, gu_s, up_s]) rfl rfl (by decide) (by decide) rfl ?_
      try simp (disch := omega) only [mH_t64, mH_r1, mH_r3, mH_r4, mH_r5, mH_r6, mH_r8, mH_r9, mH_r10, mH_r11, mH_r12, mH_r14, mH_i0, mH_i2, mH_i7, mH_i13, mH_i15, mH_t71, mH_t, mH_lr, mH_l65, mH_l69, mH_l70, mH_l71, mH_l72, mH_l73, mH_l74, mH_l75, mH_c, w64, z14, gu_s, up_s]
      refine e_step (pc' := 67) hK rfl rfl rfl ?_
      refine e_cQS4 (z := 151) hK rfl rfl rfl (Nat.le_of_ble_eq_true rfl) (Nat.le_of_ble_eq_true rfl) (m_copyLog 266 0 269 (1221 * 13) ⟨by omega, by omega⟩ ⟨by omega, by omega⟩ (by omega) (by omega) (by omega) (by show (0 : Int) + 1221 ≤ 1221 ∧ (1221 : Int) ≤ 20000; omega) (by show 1221 * 13 + 1221 ≤ (17094 : Int) ∧ (17094 : Int) ≤ 20000; omega)) ?_
      rintro _ _ _ ⟨rfl, rfl, y, rfl, hy, ry⟩
      refine ⟨by decide, ?_⟩
      rw [if_pos rfl]
      try dsimp only
      have y64 := hy 264 (by omega)
      have y7 : y 264 7 = 13 := by { rw [y64, gu_s, up_s]; try omega }
      show mv_Ev _ _ 70 _ _ _ _ _
      refine e_step (pc' := 71) hK rfl rfl rfl ?_
      refine e_step (pc' := 72) hK rfl rfl rfl ?_
      refine e_getI (ci := 4) (k := 7) (pc' := 75) hK rfl (by simp (disch := omega) only [mH_t64, mH_r1, mH_r3, mH_r4, mH_r5, mH_r6, mH_r8, mH_r9, mH_r10, mH_r11, mH_r12, mH_r14, mH_i0, mH_i2, mH_i7, mH_i13, mH_i15, mH_t71, mH_t, mH_lr, mH_l65, mH_l69, mH_l70, mH_l71, mH_l72, mH_l73, mH_l74, mH_l75, mH_c, w64, z14, gu_s, up_s, y7]) rfl rfl (by decide) (by decide) rfl ?_
      try simp (disch := omega) only [mH_t64, mH_r1, mH_r3, mH_r4, mH_r5, mH_r6, mH_r8, mH_r9, mH_r10, mH_r11, mH_r12, mH_r14, mH_i0, mH_i2, mH_i7, mH_i13, mH_i15, mH_t71, mH_t, mH_lr, mH_l65, mH_l69, mH_l70, mH_l71, mH_l72, mH_l73, mH_l74, mH_l75, mH_c, w64, z14, gu_s, up_s, y7]
      refine e_step (pc' := 76) hK rfl rfl rfl ?_
      refine e_step (pc' := 77) hK rfl rfl rfl ?_
      refine e_put (ci := 4) (k := 7) (pc' := 80) hK rfl (by simp (disch := omega) only [mH_t64, mH_r1, mH_r3, mH_r4, mH_r5, mH_r6, mH_r8, mH_r9, mH_r10, mH_r11, mH_r12, mH_r14, mH_i0, mH_i2, mH_i7, mH_i13, mH_i15, mH_t71, mH_t, mH_lr, mH_l65, mH_l69, mH_l70, mH_l71, mH_l72, mH_l73, mH_l74, mH_l75, mH_c, w64, z14, gu_s, up_s, y7]) rfl rfl (by decide) rfl rfl ?_
      simp (disch := omega) only [mW_0, mW_2, mW_7, mW_13, mW_15, mW_a, gu_s]
      refine e_ret hK rfl rfl rfl ?_
      refine ⟨rfl, rfl, _, rfl, fun b n1 n2 => ?_, fun k n1 => ?_, ?_, ?_, fun j j0 j1 => ?_⟩
      · rw [gu_n n1, hy b n2]; try (rw [gu_n n1]; exact hw b n2)
      · rw [gu_s, up_n n1, y64]; try (first | rfl | (rw [gu_s, up_n n1]; done) | (rw [gu_s, up_n n1]; exact congrFun (hw 264 (by omega)) k))
      · unfold hs_n; split <;> omega
      · rw [gu_s, up_s]; unfold hs_n; split <;> omega
      · unfold hs_n at j1
        unfold hs_g
        rw [if_pos hn14] at j1 ⊢
        by_cases e : j = 13
        · rw [if_pos e]
          refine ⟨hI, Rw_ext hR hI (fun q q0 q1 => ?_)⟩
          rw [gu_n (by omega), ry, if_pos (by omega)]
          rw [gu_n (by omega), hw 266 (by omega)]
          exact congrArg (v 266) (by omega)
        · rw [if_neg e]
          obtain ⟨i1, i2⟩ := hg (j + 1) (by omega) (by omega)
          refine ⟨i1, Rw_ext i2 i1 (fun q q0 q1 => ?_)⟩
          rw [gu_n (by omega), ry, if_neg (by omega), gu_n (by omega), g1, if_pos (by omega)]
          exact congrArg (v 269) (by omega)
    · replace hb15 := cq_ge.2.mp hb15
      exfalso; first | omega | exact absurd trivial (by assumption)
  | succ m ih =>
    intro k w ⟨hk, hw, g1⟩
    obtain ⟨hn, z7, hg⟩ := hh
    have w64 : w 264 = v 264 := hw 264 (by omega)
    have z14 : v 264 7 = 14 := by { rw [z7]; omega }
    have hK : (mv_m 150).1 = kc_Mod_remember := rfl
    refine e_step (pc' := 12) hK rfl rfl rfl ?_
    refine e_step (pc' := 15) hK rfl rfl rfl ?_
    refine e_icmp (t := 40) (pc' := 18) hK rfl (by omega) (by omega) (by decide) rfl (fun hb15 => ?_) (fun hb15 => ?_)
    · replace hb15 := cq_ge.1.mp hb15
      exfalso; first | omega | exact absurd trivial (by assumption)
    · replace hb15 := cq_ge.2.mp hb15
      refine e_step (pc' := 19) hK rfl rfl rfl ?_
      refine e_getR (ci := 4) (k := 6) (pc' := 22) hK rfl (by simp (disch := omega) only [mH_t64, mH_r1, mH_r3, mH_r4, mH_r5, mH_r6, mH_r8, mH_r9, mH_r10, mH_r11, mH_r12, mH_r14, mH_i0, mH_i2, mH_i7, mH_i13, mH_i15, mH_t71, mH_t, mH_lr, mH_l65, mH_l69, mH_l70, mH_l71, mH_l72, mH_l73, mH_l74, mH_l75, mH_c, w64, z14, gu_s, up_s]) rfl rfl (by decide) (by decide) (by (try simp (disch := omega) only [mH_t64, mH_r1, mH_r3, mH_r4, mH_r5, mH_r6, mH_r8, mH_r9, mH_r10, mH_r11, mH_r12, mH_r14, mH_i0, mH_i2, mH_i7, mH_i13, mH_i15, mH_t71, mH_t, mH_lr, mH_l65, mH_l69, mH_l70, mH_l71, mH_l72, mH_l73, mH_l74, mH_l75, mH_c, w64, z14, gu_s, up_s]); omega) rfl ?_
      try simp (disch := omega) only [mH_t64, mH_r1, mH_r3, mH_r4, mH_r5, mH_r6, mH_r8, mH_r9, mH_r10, mH_r11, mH_r12, mH_r14, mH_i0, mH_i2, mH_i7, mH_i13, mH_i15, mH_t71, mH_t, mH_lr, mH_l65, mH_l69, mH_l70, mH_l71, mH_l72, mH_l73, mH_l74, mH_l75, mH_c, w64, z14, gu_s, up_s]
      refine e_step (pc' := 23) hK rfl rfl rfl ?_
      refine e_step (pc' := 24) hK rfl rfl rfl ?_
      refine e_getR (ci := 4) (k := 6) (pc' := 27) hK rfl (by simp (disch := omega) only [mH_t64, mH_r1, mH_r3, mH_r4, mH_r5, mH_r6, mH_r8, mH_r9, mH_r10, mH_r11, mH_r12, mH_r14, mH_i0, mH_i2, mH_i7, mH_i13, mH_i15, mH_t71, mH_t, mH_lr, mH_l65, mH_l69, mH_l70, mH_l71, mH_l72, mH_l73, mH_l74, mH_l75, mH_c, w64, z14, gu_s, up_s]) rfl rfl (by decide) (by decide) (by (try simp (disch := omega) only [mH_t64, mH_r1, mH_r3, mH_r4, mH_r5, mH_r6, mH_r8, mH_r9, mH_r10, mH_r11, mH_r12, mH_r14, mH_i0, mH_i2, mH_i7, mH_i13, mH_i15, mH_t71, mH_t, mH_lr, mH_l65, mH_l69, mH_l70, mH_l71, mH_l72, mH_l73, mH_l74, mH_l75, mH_c, w64, z14, gu_s, up_s]); omega) rfl ?_
      try simp (disch := omega) only [mH_t64, mH_r1, mH_r3, mH_r4, mH_r5, mH_r6, mH_r8, mH_r9, mH_r10, mH_r11, mH_r12, mH_r14, mH_i0, mH_i2, mH_i7, mH_i13, mH_i15, mH_t71, mH_t, mH_lr, mH_l65, mH_l69, mH_l70, mH_l71, mH_l72, mH_l73, mH_l74, mH_l75, mH_c, w64, z14, gu_s, up_s]
      refine e_step (pc' := 28) hK rfl rfl rfl ?_
      refine e_step (pc' := 31) hK rfl rfl rfl ?_
      refine e_step (pc' := 32) hK rfl rfl rfl ?_
      refine e_iald (pc' := 33) hK rfl (by simp (disch := omega) only [mH_t64, mH_r1, mH_r3, mH_r4, mH_r5, mH_r6, mH_r8, mH_r9, mH_r10, mH_r11, mH_r12, mH_r14, mH_i0, mH_i2, mH_i7, mH_i13, mH_i15, mH_t71, mH_t, mH_lr, mH_l65, mH_l69, mH_l70, mH_l71, mH_l72, mH_l73, mH_l74, mH_l75, mH_c, w64, z14, gu_s, up_s]) (by omega) (by (try simp (disch := omega) only [mH_t64, mH_r1, mH_r3, mH_r4, mH_r5, mH_r6, mH_r8, mH_r9, mH_r10, mH_r11, mH_r12, mH_r14, mH_i0, mH_i2, mH_i7, mH_i13, mH_i15, mH_t71, mH_t, mH_lr, mH_l65, mH_l69, mH_l70, mH_l71, mH_l72, mH_l73, mH_l74, mH_l75, mH_c, w64, z14, gu_s, up_s]); omega) rfl ?_
      try simp (disch := omega) only [mH_t64, mH_r1, mH_r3, mH_r4, mH_r5, mH_r6, mH_r8, mH_r9, mH_r10, mH_r11, mH_r12, mH_r14, mH_i0, mH_i2, mH_i7, mH_i13, mH_i15, mH_t71, mH_t, mH_lr, mH_l65, mH_l69, mH_l70, mH_l71, mH_l72, mH_l73, mH_l74, mH_l75, mH_c, w64, z14, gu_s, up_s]
      refine e_iast (pc' := 34) hK rfl (by simp (disch := omega) only [mH_t64, mH_r1, mH_r3, mH_r4, mH_r5, mH_r6, mH_r8, mH_r9, mH_r10, mH_r11, mH_r12, mH_r14, mH_i0, mH_i2, mH_i7, mH_i13, mH_i15, mH_t71, mH_t, mH_lr, mH_l65, mH_l69, mH_l70, mH_l71, mH_l72, mH_l73, mH_l74, mH_l75, mH_c, w64, z14, gu_s, up_s]) (by omega) (by (try simp (disch := omega) only [mH_t64, mH_r1, mH_r3, mH_r4, mH_r5, mH_r6, mH_r8, mH_r9, mH_r10, mH_r11, mH_r12, mH_r14, mH_i0, mH_i2, mH_i7, mH_i13, mH_i15, mH_t71, mH_t, mH_lr, mH_l65, mH_l69, mH_l70, mH_l71, mH_l72, mH_l73, mH_l74, mH_l75, mH_c, w64, z14, gu_s, up_s]); omega) rfl ?_
      simp (disch := omega) only [mW_0, mW_2, mW_7, mW_13, mW_15, mW_a, gu_s]
      refine e_step (pc' := 37) hK rfl rfl rfl ?_
      try simp only [List.set_cons_zero, List.set_cons_succ]
      refine e_goto (t := 11) hK rfl (by decide) ?_
      refine ih (k + 1) _ ⟨by omega, fun b n1 => by rw [gu_n n1]; exact hw b n1, fun q => ?_⟩
      rw [gu_s]
      by_cases e : q = k
      · rw [e, up_s, if_pos (by omega), g1 _, if_neg (by omega)]
      · rw [up_n e, g1 q]
        by_cases e2 : 0 ≤ q ∧ q < k
        · rw [if_pos e2, if_pos (by omega)]
        · rw [if_neg e2, if_neg (by omega)]
set_option maxRecDepth 10000 in
theorem m_remember {n : Nat} {g : Int → lg} {A : lg} (hh : HdR v n g) (hR : Rw (v 266) A) (hI : gI A) : mv_Cl sc q_Mod_remember [(2, 264)] c (mH h v) (fun r c' h' => r = (3, 0) ∧ c' = c ∧ ∃ w, h' = mH h w ∧ (∀ b : Int, b ≠ 264 → b ≠ 269 → w b = v b) ∧ (∀ k : Int, k ≠ 7 → w 264 k = v 264 k) ∧ HdR w (hs_n n) (hs_g n g A)) := by
  have hh0 := hh
  obtain ⟨hn, z7, hg⟩ := hh
  show mv_Ev sc 150 0 [(2, 264), (5, 0)] [] c (mH h v) _
  have hK : (mv_m 150).1 = kc_Mod_remember := rfl
  refine e_step (pc' := 1) hK rfl rfl rfl ?_
  refine e_getI (ci := 4) (k := 7) (pc' := 4) hK rfl (by simp (disch := omega) only [mH_t64, mH_r1, mH_r3, mH_r4, mH_r5, mH_r6, mH_r8, mH_r9, mH_r10, mH_r11, mH_r12, mH_r14, mH_i0, mH_i2, mH_i7, mH_i13, mH_i15, mH_t71, mH_t, mH_lr, mH_l65, mH_l69, mH_l70, mH_l71, mH_l72, mH_l73, mH_l74, mH_l75, mH_c, z7]) rfl rfl (by decide) (by decide) rfl ?_
  try simp (disch := omega) only [mH_t64, mH_r1, mH_r3, mH_r4, mH_r5, mH_r6, mH_r8, mH_r9, mH_r10, mH_r11, mH_r12, mH_r14, mH_i0, mH_i2, mH_i7, mH_i13, mH_i15, mH_t71, mH_t, mH_lr, mH_l65, mH_l69, mH_l70, mH_l71, mH_l72, mH_l73, mH_l74, mH_l75, mH_c, z7]
  refine e_step (pc' := 6) hK rfl rfl rfl ?_
  refine e_icmp (t := 50) (pc' := 9) hK rfl (by omega) (by omega) (by decide) rfl (fun hb6 => ?_) (fun hb6 => ?_)
  · replace hb6 := cq_ne.1.mp hb6
    refine e_step (pc' := 51) hK rfl rfl rfl ?_
    refine e_getR (ci := 4) (k := 3) (pc' := 54) hK rfl (by simp (disch := omega) only [mH_t64, mH_r1, mH_r3, mH_r4, mH_r5, mH_r6, mH_r8, mH_r9, mH_r10, mH_r11, mH_r12, mH_r14, mH_i0, mH_i2, mH_i7, mH_i13, mH_i15, mH_t71, mH_t, mH_lr, mH_l65, mH_l69, mH_l70, mH_l71, mH_l72, mH_l73, mH_l74, mH_l75, mH_c, z7]) rfl rfl (by decide) (by decide) (by (try simp (disch := omega) only [mH_t64, mH_r1, mH_r3, mH_r4, mH_r5, mH_r6, mH_r8, mH_r9, mH_r10, mH_r11, mH_r12, mH_r14, mH_i0, mH_i2, mH_i7, mH_i13, mH_i15, mH_t71, mH_t, mH_lr, mH_l65, mH_l69, mH_l70, mH_l71, mH_l72, mH_l73, mH_l74, mH_l75, mH_c, z7]); omega) rfl ?_
    try simp (disch := omega) only [mH_t64, mH_r1, mH_r3, mH_r4, mH_r5, mH_r6, mH_r8, mH_r9, mH_r10, mH_r11, mH_r12, mH_r14, mH_i0, mH_i2, mH_i7, mH_i13, mH_i15, mH_t71, mH_t, mH_lr, mH_l65, mH_l69, mH_l70, mH_l71, mH_l72, mH_l73, mH_l74, mH_l75, mH_c, z7]
    refine e_step (pc' := 55) hK rfl rfl rfl ?_
    refine e_step (pc' := 56) hK rfl rfl rfl ?_
    refine e_getR (ci := 4) (k := 6) (pc' := 59) hK rfl (by simp (disch := omega) only [mH_t64, mH_r1, mH_r3, mH_r4, mH_r5, mH_r6, mH_r8, mH_r9, mH_r10, mH_r11, mH_r12, mH_r14, mH_i0, mH_i2, mH_i7, mH_i13, mH_i15, mH_t71, mH_t, mH_lr, mH_l65, mH_l69, mH_l70, mH_l71, mH_l72, mH_l73, mH_l74, mH_l75, mH_c, z7]) rfl rfl (by decide) (by decide) (by (try simp (disch := omega) only [mH_t64, mH_r1, mH_r3, mH_r4, mH_r5, mH_r6, mH_r8, mH_r9, mH_r10, mH_r11, mH_r12, mH_r14, mH_i0, mH_i2, mH_i7, mH_i13, mH_i15, mH_t71, mH_t, mH_lr, mH_l65, mH_l69, mH_l70, mH_l71, mH_l72, mH_l73, mH_l74, mH_l75, mH_c, z7]); omega) rfl ?_
    try simp (disch := omega) only [mH_t64, mH_r1, mH_r3, mH_r4, mH_r5, mH_r6, mH_r8, mH_r9, mH_r10, mH_r11, mH_r12, mH_r14, mH_i0, mH_i2, mH_i7, mH_i13, mH_i15, mH_t71, mH_t, mH_lr, mH_l65, mH_l69, mH_l70, mH_l71, mH_l72, mH_l73, mH_l74, mH_l75, mH_c, z7]
    refine e_step (pc' := 62) hK rfl rfl rfl ?_
    refine e_step (pc' := 63) hK rfl rfl rfl ?_
    refine e_getI (ci := 4) (k := 7) (pc' := 66) hK rfl (by simp (disch := omega) only [mH_t64, mH_r1, mH_r3, mH_r4, mH_r5, mH_r6, mH_r8, mH_r9, mH_r10, mH_r11, mH_r12, mH_r14, mH_i0, mH_i2, mH_i7, mH_i13, mH_i15, mH_t71, mH_t, mH_lr, mH_l65, mH_l69, mH_l70, mH_l71, mH_l72, mH_l73, mH_l74, mH_l75, mH_c, z7]) rfl rfl (by decide) (by decide) rfl ?_
    try simp (disch := omega) only [mH_t64, mH_r1, mH_r3, mH_r4, mH_r5, mH_r6, mH_r8, mH_r9, mH_r10, mH_r11, mH_r12, mH_r14, mH_i0, mH_i2, mH_i7, mH_i13, mH_i15, mH_t71, mH_t, mH_lr, mH_l65, mH_l69, mH_l70, mH_l71, mH_l72, mH_l73, mH_l74, mH_l75, mH_c, z7]
    refine e_step (pc' := 67) hK rfl rfl rfl ?_
    refine e_cQS4 (z := 151) hK rfl rfl rfl (Nat.le_of_ble_eq_true rfl) (Nat.le_of_ble_eq_true rfl) (m_copyLog 266 0 269 (1221 * (n : Int)) ⟨by omega, by omega⟩ ⟨by omega, by omega⟩ (by omega) (by omega) (by omega) (by show (0 : Int) + 1221 ≤ 1221 ∧ (1221 : Int) ≤ 20000; omega) (by show 1221 * (n : Int) + 1221 ≤ (17094 : Int) ∧ (17094 : Int) ≤ 20000; omega)) ?_
    rintro _ _ _ ⟨rfl, rfl, y, rfl, hy, ry⟩
    refine ⟨by decide, ?_⟩
    rw [if_pos rfl]
    try dsimp only
    have y64 : y 264 = v 264 := hy 264 (by omega)
    have y7 : y 264 7 = (n : Int) := by { rw [y64]; exact z7 }
    have hn14 : ¬ n = 14 := by omega
    show mv_Ev _ _ 70 _ _ _ _ _
    refine e_step (pc' := 71) hK rfl rfl rfl ?_
    refine e_step (pc' := 72) hK rfl rfl rfl ?_
    refine e_getI (ci := 4) (k := 7) (pc' := 75) hK rfl (by simp (disch := omega) only [mH_t64, mH_r1, mH_r3, mH_r4, mH_r5, mH_r6, mH_r8, mH_r9, mH_r10, mH_r11, mH_r12, mH_r14, mH_i0, mH_i2, mH_i7, mH_i13, mH_i15, mH_t71, mH_t, mH_lr, mH_l65, mH_l69, mH_l70, mH_l71, mH_l72, mH_l73, mH_l74, mH_l75, mH_c, z7, y7]) rfl rfl (by decide) (by decide) rfl ?_
    try simp (disch := omega) only [mH_t64, mH_r1, mH_r3, mH_r4, mH_r5, mH_r6, mH_r8, mH_r9, mH_r10, mH_r11, mH_r12, mH_r14, mH_i0, mH_i2, mH_i7, mH_i13, mH_i15, mH_t71, mH_t, mH_lr, mH_l65, mH_l69, mH_l70, mH_l71, mH_l72, mH_l73, mH_l74, mH_l75, mH_c, z7, y7]
    refine e_step (pc' := 76) hK rfl rfl rfl ?_
    refine e_step (pc' := 77) hK rfl rfl rfl ?_
    refine e_put (ci := 4) (k := 7) (pc' := 80) hK rfl (by simp (disch := omega) only [mH_t64, mH_r1, mH_r3, mH_r4, mH_r5, mH_r6, mH_r8, mH_r9, mH_r10, mH_r11, mH_r12, mH_r14, mH_i0, mH_i2, mH_i7, mH_i13, mH_i15, mH_t71, mH_t, mH_lr, mH_l65, mH_l69, mH_l70, mH_l71, mH_l72, mH_l73, mH_l74, mH_l75, mH_c, z7, y7]) rfl rfl (by decide) rfl rfl ?_
    simp (disch := omega) only [mW_0, mW_2, mW_7, mW_13, mW_15, mW_a, gu_s]
    refine e_ret hK rfl rfl rfl ?_
    refine ⟨rfl, rfl, _, rfl, fun b n1 n2 => ?_, fun k n1 => ?_, ?_, ?_, fun j j0 j1 => ?_⟩
    · rw [gu_n n1, hy b n2]; try (rfl)
    · rw [gu_s, up_n n1, y64]; try (rfl)
    · unfold hs_n; split <;> omega
    · rw [gu_s, up_s]; unfold hs_n; split <;> omega
    · unfold hs_n at j1
      unfold hs_g
      rw [if_neg hn14] at j1 ⊢
      by_cases e : j = n
      · rw [if_pos e]
        refine ⟨hI, Rw_ext hR hI (fun q q0 q1 => ?_)⟩
        rw [gu_n (by omega), ry, if_pos (by omega)]
        exact congrArg (v 266) (by omega)
      · rw [if_neg e]
        obtain ⟨i1, i2⟩ := hg j (by omega) (by omega)
        refine ⟨i1, Rw_ext i2 i1 (fun q q0 q1 => ?_)⟩
        rw [gu_n (by omega), ry, if_neg (by omega)]
  · replace hb6 := cq_ne.2.mp hb6
    refine e_step (pc' := 10) hK rfl rfl rfl ?_
    refine e_step (pc' := 11) hK rfl rfl rfl ?_
    try simp only [List.set_cons_zero, List.set_cons_succ]
    exact m_rem1 hh0 hR hI (by omega) 15873 0 v ⟨by omega, fun b _ => rfl, fun q => by rw [if_neg (by omega)]⟩
end MQ
