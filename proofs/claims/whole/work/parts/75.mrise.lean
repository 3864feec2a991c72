/-! the reference's face: rises (written by wip/whole/m75.py) -/
section GE
variable {sc : Int × (Int → Int)} {c : mv_C} {h : mv_H} {v : mvt}
set_option maxRecDepth 10000 in
theorem g_risesL {v0 : mvt} {A : lg} (hR : Rw (v0 266) A) (hI : gI A) (t q R : Int) (ht0 : 0 ≤ t) (ht1 : t < gT A) (hq0 : 0 ≤ q) (hq1 : q < xn (gs A t)) (hk : gk A t q = 3) : ∀ (m : Nat) (w : mvt) (i n st la : Int) (a8 : mv_V), (0 ≤ i ∧ i ≤ m ∧ i < gn A ∧ gP A i = t ∧ 1 ≤ n ∧ n ≤ gn A - i ∧ (-1000000 ≤ st ∧ st ≤ 1000000) ∧ (0 ≤ la ∧ la ≤ 1000000) ∧ crs A t q i.toNat n st la = R ∧ ms v0 w) → mv_Ev sc 143 83 [(2, 264), (0, t), (0, q), (0, i), (0, la), (0, st), (0, n), (0, 1), a8] [] c (mH h w) (mv_Ms h v0 R c) := by
  intro m
  induction m with
  | zero =>
    intro w i n st la a8 ⟨hi0, him, hin, hit, hn0, hn1, hst, hla, hRR, hw⟩
    have b1 := hI.1
    have b2 := hI.2.1
    have ew : w 266 = v0 266 := hw 266 (by omega) (by omega) (by omega)
    have xb := xn_b (gSok hI ht0 ht1)
    have hK : (mv_m 143).1 = kc_Mod_rises := rfl
    refine e_step (pc' := 85) hK rfl rfl rfl ?_
    refine e_if (t := 195) (pc' := 88) hK rfl (by first | omega | (have q9 := glo_b A t i; omega)) (by decide) rfl (fun hb85 => ?_) (fun hb85 => ?_)
    · replace hb85 := cq_eq.1.mp hb85
      exfalso; first | omega | exact absurd trivial (by assumption) | (first | omega | (have q9 := glo_b A t i; omega))
    · replace hb85 := cq_eq.2.mp hb85
      refine e_step (pc' := 89) hK rfl rfl rfl ?_
      refine e_getR (ci := 4) (k := 3) (pc' := 92) hK rfl (by simp (disch := omega) only [mH_t64, mH_r1, mH_r3, mH_r4, mH_r5, mH_r6, mH_r8, mH_r9, mH_r10, mH_r11, mH_r12, mH_r14, mH_i0, mH_i2, mH_i7, mH_i13, mH_i15, mH_t71, mH_t, mH_lr, mH_l65, mH_l69, mH_l70, mH_l71, mH_l72, mH_l73, mH_l74, mH_l75, mH_c]) rfl rfl (by decide) (by decide) (by (try simp (disch := omega) only [mH_t64, mH_r1, mH_r3, mH_r4, mH_r5, mH_r6, mH_r8, mH_r9, mH_r10, mH_r11, mH_r12, mH_r14, mH_i0, mH_i2, mH_i7, mH_i13, mH_i15, mH_t71, mH_t, mH_lr, mH_l65, mH_l69, mH_l70, mH_l71, mH_l72, mH_l73, mH_l74, mH_l75, mH_c]); first | omega | (have q9 := glo_b A t i; omega)) rfl ?_
      try simp (disch := omega) only [mH_t64, mH_r1, mH_r3, mH_r4, mH_r5, mH_r6, mH_r8, mH_r9, mH_r10, mH_r11, mH_r12, mH_r14, mH_i0, mH_i2, mH_i7, mH_i13, mH_i15, mH_t71, mH_t, mH_lr, mH_l65, mH_l69, mH_l70, mH_l71, mH_l72, mH_l73, mH_l74, mH_l75, mH_c]
      refine e_step (pc' := 93) hK rfl rfl rfl ?_
      refine e_step (pc' := 94) hK rfl rfl rfl ?_
      refine e_cRS3 (z := 122) (pc' := 97) hK rfl rfl rfl (Nat.le_of_ble_eq_true rfl) (Nat.le_of_ble_eq_true rfl) (m_before 266 (by omega) (by rw [ew]; exact hR) hI t (by omega) i hi0 (by omega)) (by decide) rfl ?_
      try simp (disch := omega) only [mH_t64, mH_r1, mH_r3, mH_r4, mH_r5, mH_r6, mH_r8, mH_r9, mH_r10, mH_r11, mH_r12, mH_r14, mH_i0, mH_i2, mH_i7, mH_i13, mH_i15, mH_t71, mH_t, mH_lr, mH_l65, mH_l69, mH_l70, mH_l71, mH_l72, mH_l73, mH_l74, mH_l75, mH_c]
      refine e_step (pc' := 98) hK rfl rfl rfl ?_
      try simp only [List.set_cons_zero, List.set_cons_succ]
      have hcr := crs_st (A := A) (t := t) (p := q) (m := i.toNat) (l := n) (s := st) (v := la) (by omega)
      rw [show ((i.toNat : Nat) : Int) = i from by omega] at hcr
      have gp1 : glo A t i = -9999 ∨ (0 ≤ glo A t i ∧ glo A t i < i) := (glo_p A t i).imp id (fun q => ⟨q.1, q.2.1⟩)
      refine e_step (pc' := 99) hK rfl rfl rfl ?_
      refine e_step (pc' := 102) hK rfl rfl rfl ?_
      refine e_icmp (t := 109) (pc' := 105) hK rfl (by first | omega | (have q9 := glo_b A t i; omega)) (by first | omega | (have q9 := glo_b A t i; omega)) (by decide) rfl (fun hb102 => ?_) (fun hb102 => ?_)
      · replace hb102 := cq_eq.1.mp hb102
        refine e_step (pc' := 110) hK rfl rfl rfl ?_
        refine e_step (pc' := 112) hK rfl rfl rfl ?_
        try simp only [List.set_cons_zero, List.set_cons_succ]
        refine e_step (pc' := 114) hK rfl rfl rfl ?_
        refine e_if (t := 83) (pc' := 117) hK rfl (by first | omega | (have q9 := glo_b A t i; omega)) (by decide) rfl (fun hb114 => ?_) (fun hb114 => ?_)
        · replace hb114 := cq_eq.1.mp hb114
          refine e_step (pc' := 85) hK rfl rfl rfl ?_
          refine e_if (t := 195) (pc' := 88) hK rfl (by omega) (by decide) rfl (fun hb85 => ?_) (fun hb85 => ?_)
          · replace hb85 := cq_eq.1.mp hb85
            refine e_step (pc' := 197) hK rfl rfl rfl ?_
            refine e_ret hK rfl rfl rfl ?_
            refine ⟨?_, rfl, w, rfl, hw⟩
            rw [← hRR, hcr.1 hb102]
          · replace hb85 := cq_eq.2.mp hb85
            exfalso; first | omega | exact absurd trivial (by assumption)
        · replace hb114 := cq_eq.2.mp hb114
          exfalso; first | omega | exact absurd trivial (by assumption) | (first | omega | (have q9 := glo_b A t i; omega))
      · replace hb102 := cq_eq.2.mp hb102
        exfalso; first | omega | exact absurd trivial (by assumption) | (first | omega | (have q9 := glo_b A t i; omega))
  | succ m ih =>
    intro w i n st la a8 ⟨hi0, him, hin, hit, hn0, hn1, hst, hla, hRR, hw⟩
    have b1 := hI.1
    have b2 := hI.2.1
    have ew : w 266 = v0 266 := hw 266 (by omega) (by omega) (by omega)
    have xb := xn_b (gSok hI ht0 ht1)
    have hK : (mv_m 143).1 = kc_Mod_rises := rfl
    refine e_step (pc' := 85) hK rfl rfl rfl ?_
    refine e_if (t := 195) (pc' := 88) hK rfl (by first | omega | (have q9 := glo_b A t i; omega)) (by decide) rfl (fun hb85 => ?_) (fun hb85 => ?_)
    · replace hb85 := cq_eq.1.mp hb85
      exfalso; first | omega | exact absurd trivial (by assumption) | (first | omega | (have q9 := glo_b A t i; omega))
    · replace hb85 := cq_eq.2.mp hb85
      refine e_step (pc' := 89) hK rfl rfl rfl ?_
      refine e_getR (ci := 4) (k := 3) (pc' := 92) hK rfl (by simp (disch := omega) only [mH_t64, mH_r1, mH_r3, mH_r4, mH_r5, mH_r6, mH_r8, mH_r9, mH_r10, mH_r11, mH_r12, mH_r14, mH_i0, mH_i2, mH_i7, mH_i13, mH_i15, mH_t71, mH_t, mH_lr, mH_l65, mH_l69, mH_l70, mH_l71, mH_l72, mH_l73, mH_l74, mH_l75, mH_c]) rfl rfl (by decide) (by decide) (by (try simp (disch := omega) only [mH_t64, mH_r1, mH_r3, mH_r4, mH_r5, mH_r6, mH_r8, mH_r9, mH_r10, mH_r11, mH_r12, mH_r14, mH_i0, mH_i2, mH_i7, mH_i13, mH_i15, mH_t71, mH_t, mH_lr, mH_l65, mH_l69, mH_l70, mH_l71, mH_l72, mH_l73, mH_l74, mH_l75, mH_c]); first | omega | (have q9 := glo_b A t i; omega)) rfl ?_
      try simp (disch := omega) only [mH_t64, mH_r1, mH_r3, mH_r4, mH_r5, mH_r6, mH_r8, mH_r9, mH_r10, mH_r11, mH_r12, mH_r14, mH_i0, mH_i2, mH_i7, mH_i13, mH_i15, mH_t71, mH_t, mH_lr, mH_l65, mH_l69, mH_l70, mH_l71, mH_l72, mH_l73, mH_l74, mH_l75, mH_c]
      refine e_step (pc' := 93) hK rfl rfl rfl ?_
      refine e_step (pc' := 94) hK rfl rfl rfl ?_
      refine e_cRS3 (z := 122) (pc' := 97) hK rfl rfl rfl (Nat.le_of_ble_eq_true rfl) (Nat.le_of_ble_eq_true rfl) (m_before 266 (by omega) (by rw [ew]; exact hR) hI t (by omega) i hi0 (by omega)) (by decide) rfl ?_
      try simp (disch := omega) only [mH_t64, mH_r1, mH_r3, mH_r4, mH_r5, mH_r6, mH_r8, mH_r9, mH_r10, mH_r11, mH_r12, mH_r14, mH_i0, mH_i2, mH_i7, mH_i13, mH_i15, mH_t71, mH_t, mH_lr, mH_l65, mH_l69, mH_l70, mH_l71, mH_l72, mH_l73, mH_l74, mH_l75, mH_c]
      refine e_step (pc' := 98) hK rfl rfl rfl ?_
      try simp only [List.set_cons_zero, List.set_cons_succ]
      have hcr := crs_st (A := A) (t := t) (p := q) (m := i.toNat) (l := n) (s := st) (v := la) (by omega)
      rw [show ((i.toNat : Nat) : Int) = i from by omega] at hcr
      have gp1 : glo A t i = -9999 ∨ (0 ≤ glo A t i ∧ glo A t i < i) := (glo_p A t i).imp id (fun q => ⟨q.1, q.2.1⟩)
      refine e_step (pc' := 99) hK rfl rfl rfl ?_
      refine e_step (pc' := 102) hK rfl rfl rfl ?_
      refine e_icmp (t := 109) (pc' := 105) hK rfl (by first | omega | (have q9 := glo_b A t i; omega)) (by first | omega | (have q9 := glo_b A t i; omega)) (by decide) rfl (fun hb102 => ?_) (fun hb102 => ?_)
      · replace hb102 := cq_eq.1.mp hb102
        refine e_step (pc' := 110) hK rfl rfl rfl ?_
        refine e_step (pc' := 112) hK rfl rfl rfl ?_
        try simp only [List.set_cons_zero, List.set_cons_succ]
        refine e_step (pc' := 114) hK rfl rfl rfl ?_
        refine e_if (t := 83) (pc' := 117) hK rfl (by first | omega | (have q9 := glo_b A t i; omega)) (by decide) rfl (fun hb114 => ?_) (fun hb114 => ?_)
        · replace hb114 := cq_eq.1.mp hb114
          refine e_step (pc' := 85) hK rfl rfl rfl ?_
          refine e_if (t := 195) (pc' := 88) hK rfl (by omega) (by decide) rfl (fun hb85 => ?_) (fun hb85 => ?_)
          · replace hb85 := cq_eq.1.mp hb85
            refine e_step (pc' := 197) hK rfl rfl rfl ?_
            refine e_ret hK rfl rfl rfl ?_
            refine ⟨?_, rfl, w, rfl, hw⟩
            rw [← hRR, hcr.1 hb102]
          · replace hb85 := cq_eq.2.mp hb85
            exfalso; first | omega | exact absurd trivial (by assumption)
        · replace hb114 := cq_eq.2.mp hb114
          exfalso; first | omega | exact absurd trivial (by assumption) | (first | omega | (have q9 := glo_b A t i; omega))
      · replace hb102 := cq_eq.2.mp hb102
        refine e_step (pc' := 106) hK rfl rfl rfl ?_
        refine e_goto (t := 110) hK rfl (by decide) ?_
        refine e_step (pc' := 112) hK rfl rfl rfl ?_
        try simp only [List.set_cons_zero, List.set_cons_succ]
        refine e_step (pc' := 114) hK rfl rfl rfl ?_
        refine e_if (t := 83) (pc' := 117) hK rfl (by first | omega | (have q9 := glo_b A t i; omega)) (by decide) rfl (fun hb114 => ?_) (fun hb114 => ?_)
        · replace hb114 := cq_eq.1.mp hb114
          exfalso; first | omega | exact absurd trivial (by assumption) | (first | omega | (have q9 := glo_b A t i; omega))
        · replace hb114 := cq_eq.2.mp hb114
          have hj := (glo_p A t i).resolve_left hb102
          have egl := gl_L (A := A) hj.1 hj.2.2.1
          have k3j := (gI_k3 hI hj.1 hj.2.2.1 hj.2.2.2.1 hq0 hq1).1.mp hk
          have hcr2 := hcr.2 hb102
          rw [egl] at hcr2
          have hljx := gI_l hI hj.1 hj.2.2.1 hj.2.2.2.1
          have v2 := xv_b3 hljx.2.2.1 k3j
          refine e_step (pc' := 118) hK rfl rfl rfl ?_
          refine e_step (pc' := 119) hK rfl rfl rfl ?_
          refine e_getR (ci := 4) (k := 3) (pc' := 122) hK rfl (by simp (disch := omega) only [mH_t64, mH_r1, mH_r3, mH_r4, mH_r5, mH_r6, mH_r8, mH_r9, mH_r10, mH_r11, mH_r12, mH_r14, mH_i0, mH_i2, mH_i7, mH_i13, mH_i15, mH_t71, mH_t, mH_lr, mH_l65, mH_l69, mH_l70, mH_l71, mH_l72, mH_l73, mH_l74, mH_l75, mH_c]) rfl rfl (by decide) (by decide) (by (try simp (disch := omega) only [mH_t64, mH_r1, mH_r3, mH_r4, mH_r5, mH_r6, mH_r8, mH_r9, mH_r10, mH_r11, mH_r12, mH_r14, mH_i0, mH_i2, mH_i7, mH_i13, mH_i15, mH_t71, mH_t, mH_lr, mH_l65, mH_l69, mH_l70, mH_l71, mH_l72, mH_l73, mH_l74, mH_l75, mH_c]); first | omega | (have q9 := glo_b A t i; omega)) rfl ?_
          try simp (disch := omega) only [mH_t64, mH_r1, mH_r3, mH_r4, mH_r5, mH_r6, mH_r8, mH_r9, mH_r10, mH_r11, mH_r12, mH_r14, mH_i0, mH_i2, mH_i7, mH_i13, mH_i15, mH_t71, mH_t, mH_lr, mH_l65, mH_l69, mH_l70, mH_l71, mH_l72, mH_l73, mH_l74, mH_l75, mH_c]
          refine e_step (pc' := 123) hK rfl rfl rfl ?_
          refine e_step (pc' := 124) hK rfl rfl rfl ?_
          refine e_cQV4 (z := 123) hK rfl rfl (by first | (simp (disch := omega) only [mH_t64, mH_r1, mH_r3, mH_r4, mH_r5, mH_r6, mH_r8, mH_r9, mH_r10, mH_r11, mH_r12, mH_r14, mH_i0, mH_i2, mH_i7, mH_i13, mH_i15, mH_t71, mH_t, mH_lr, mH_l65, mH_l69, mH_l70, mH_l71, mH_l72, mH_l73, mH_l74, mH_l75, mH_c]; rfl) | (show _ = 2; assumption) | (show _ = 1; assumption) | (show _ = 0; assumption) | (show _ = 3; assumption) | (show _ = 4; assumption)) rfl (Nat.le_of_ble_eq_true rfl) (Nat.le_of_ble_eq_true rfl) (m_cut 266 (by omega) (glo A t i) 0 ⟨hj.1, by omega⟩ (Or.inl rfl) hljx.2.2.1 (by rw [ew]; exact (hR.2.2.1 _ hj.1 hj.2.2.1).1)) ?_
          rintro _ _ _ ⟨rfl, rfl, u, rfl, hu, ku⟩
          refine ⟨by show (0 : Nat) ≠ 4; decide, ?_⟩
          rw [if_neg (by show ¬ (0 : Nat) = 3; decide)]
          try dsimp only
          have eu : u 266 = v0 266 := (hu.1 266 (by omega) (by omega) (by omega)).trans ew
          have pu : Pc u (u 266) q (glo A t i) (gL A (glo A t i)) q := Pc_of (o := 0) ku (by rw [eu]; exact (hR.2.2.1 _ hj.1 hj.2.2.1).1) ⟨hj.1, by omega⟩ hljx.2.2.1 (Or.inl rfl) hq0 (by omega) (by omega)
          show mv_Ev _ _ 127 _ _ _ _ _
          refine e_step (pc' := 128) hK rfl rfl rfl ?_
          refine e_step (pc' := 130) hK rfl rfl rfl ?_
          refine e_step (pc' := 131) hK rfl rfl rfl ?_
          refine e_step (pc' := 132) hK rfl rfl rfl ?_
          refine e_getR (ci := 4) (k := 3) (pc' := 135) hK rfl (by simp (disch := omega) only [mH_t64, mH_r1, mH_r3, mH_r4, mH_r5, mH_r6, mH_r8, mH_r9, mH_r10, mH_r11, mH_r12, mH_r14, mH_i0, mH_i2, mH_i7, mH_i13, mH_i15, mH_t71, mH_t, mH_lr, mH_l65, mH_l69, mH_l70, mH_l71, mH_l72, mH_l73, mH_l74, mH_l75, mH_c]) rfl rfl (by decide) (by decide) (by (try simp (disch := omega) only [mH_t64, mH_r1, mH_r3, mH_r4, mH_r5, mH_r6, mH_r8, mH_r9, mH_r10, mH_r11, mH_r12, mH_r14, mH_i0, mH_i2, mH_i7, mH_i13, mH_i15, mH_t71, mH_t, mH_lr, mH_l65, mH_l69, mH_l70, mH_l71, mH_l72, mH_l73, mH_l74, mH_l75, mH_c]); first | omega | (have q9 := glo_b A t i; omega)) rfl ?_
          try simp (disch := omega) only [mH_t64, mH_r1, mH_r3, mH_r4, mH_r5, mH_r6, mH_r8, mH_r9, mH_r10, mH_r11, mH_r12, mH_r14, mH_i0, mH_i2, mH_i7, mH_i13, mH_i15, mH_t71, mH_t, mH_lr, mH_l65, mH_l69, mH_l70, mH_l71, mH_l72, mH_l73, mH_l74, mH_l75, mH_c]
          refine e_step (pc' := 136) hK rfl rfl rfl ?_
          refine e_cRV3 (z := 124) (pc' := 139) hK rfl rfl (by first | (simp (disch := omega) only [mH_t64, mH_r1, mH_r3, mH_r4, mH_r5, mH_r6, mH_r8, mH_r9, mH_r10, mH_r11, mH_r12, mH_r14, mH_i0, mH_i2, mH_i7, mH_i13, mH_i15, mH_t71, mH_t, mH_lr, mH_l65, mH_l69, mH_l70, mH_l71, mH_l72, mH_l73, mH_l74, mH_l75, mH_c]; rfl) | (show _ = 2; assumption) | (show _ = 1; assumption) | (show _ = 0; assumption) | (show _ = 3; assumption) | (show _ = 4; assumption)) rfl (Nat.le_of_ble_eq_true rfl) (Nat.le_of_ble_eq_true rfl) (m_val 266 (by omega) pu k3j) (by decide) rfl ?_
          try simp (disch := omega) only [mH_t64, mH_r1, mH_r3, mH_r4, mH_r5, mH_r6, mH_r8, mH_r9, mH_r10, mH_r11, mH_r12, mH_r14, mH_i0, mH_i2, mH_i7, mH_i13, mH_i15, mH_t71, mH_t, mH_lr, mH_l65, mH_l69, mH_l70, mH_l71, mH_l72, mH_l73, mH_l74, mH_l75, mH_c]
          refine e_step (pc' := 140) hK rfl rfl rfl ?_
          refine e_step (pc' := 142) hK rfl rfl rfl ?_
          try simp only [List.set_cons_zero, List.set_cons_succ]
          refine e_step (pc' := 144) hK rfl rfl rfl ?_
          refine e_step (pc' := 145) hK rfl rfl rfl ?_
          refine e_icmp (t := 155) (pc' := 148) hK rfl (by first | omega | (have q9 := glo_b A t i; omega)) (by first | omega | (have q9 := glo_b A t i; omega)) (by decide) rfl (fun hb145 => ?_) (fun hb145 => ?_)
          · replace hb145 := cq_eq.1.mp hb145
            refine e_step (pc' := 156) hK rfl rfl rfl ?_
            refine e_goto (t := 160) hK rfl (by decide) ?_
            refine e_step (pc' := 162) hK rfl rfl rfl ?_
            try simp only [List.set_cons_zero, List.set_cons_succ]
            refine e_step (pc' := 164) hK rfl rfl rfl ?_
            refine e_step (pc' := 166) hK rfl rfl rfl ?_
            refine e_if (t := 173) (pc' := 169) hK rfl (by first | omega | (have q9 := glo_b A t i; omega)) (by decide) rfl (fun hb166 => ?_) (fun hb166 => ?_)
            · replace hb166 := cq_eq.1.mp hb166
              exfalso; first | omega | exact absurd trivial (by assumption) | (first | omega | (have q9 := glo_b A t i; omega))
            · replace hb166 := cq_eq.2.mp hb166
              refine e_step (pc' := 170) hK rfl rfl rfl ?_
              refine e_goto (t := 174) hK rfl (by decide) ?_
              refine e_step (pc' := 175) hK rfl rfl rfl ?_
              refine e_step (pc' := 177) hK rfl rfl rfl ?_
              try simp only [List.set_cons_zero, List.set_cons_succ]
              refine e_step (pc' := 179) hK rfl rfl rfl ?_
              refine e_step (pc' := 181) hK rfl rfl rfl ?_
              try simp only [List.set_cons_zero, List.set_cons_succ]
              refine e_step (pc' := 182) hK rfl rfl rfl ?_
              refine e_step (pc' := 183) hK rfl rfl rfl ?_
              refine e_getR (ci := 4) (k := 3) (pc' := 186) hK rfl (by simp (disch := omega) only [mH_t64, mH_r1, mH_r3, mH_r4, mH_r5, mH_r6, mH_r8, mH_r9, mH_r10, mH_r11, mH_r12, mH_r14, mH_i0, mH_i2, mH_i7, mH_i13, mH_i15, mH_t71, mH_t, mH_lr, mH_l65, mH_l69, mH_l70, mH_l71, mH_l72, mH_l73, mH_l74, mH_l75, mH_c]) rfl rfl (by decide) (by decide) (by (try simp (disch := omega) only [mH_t64, mH_r1, mH_r3, mH_r4, mH_r5, mH_r6, mH_r8, mH_r9, mH_r10, mH_r11, mH_r12, mH_r14, mH_i0, mH_i2, mH_i7, mH_i13, mH_i15, mH_t71, mH_t, mH_lr, mH_l65, mH_l69, mH_l70, mH_l71, mH_l72, mH_l73, mH_l74, mH_l75, mH_c]); first | omega | (have q9 := glo_b A t i; omega)) rfl ?_
              try simp (disch := omega) only [mH_t64, mH_r1, mH_r3, mH_r4, mH_r5, mH_r6, mH_r8, mH_r9, mH_r10, mH_r11, mH_r12, mH_r14, mH_i0, mH_i2, mH_i7, mH_i13, mH_i15, mH_t71, mH_t, mH_lr, mH_l65, mH_l69, mH_l70, mH_l71, mH_l72, mH_l73, mH_l74, mH_l75, mH_c]
              refine e_step (pc' := 187) hK rfl rfl rfl ?_
              refine e_cRV3 (z := 124) (pc' := 190) hK rfl rfl (by first | (simp (disch := omega) only [mH_t64, mH_r1, mH_r3, mH_r4, mH_r5, mH_r6, mH_r8, mH_r9, mH_r10, mH_r11, mH_r12, mH_r14, mH_i0, mH_i2, mH_i7, mH_i13, mH_i15, mH_t71, mH_t, mH_lr, mH_l65, mH_l69, mH_l70, mH_l71, mH_l72, mH_l73, mH_l74, mH_l75, mH_c]; rfl) | (show _ = 2; assumption) | (show _ = 1; assumption) | (show _ = 0; assumption) | (show _ = 3; assumption) | (show _ = 4; assumption)) rfl (Nat.le_of_ble_eq_true rfl) (Nat.le_of_ble_eq_true rfl) (m_val 266 (by omega) pu k3j) (by decide) rfl ?_
              try simp (disch := omega) only [mH_t64, mH_r1, mH_r3, mH_r4, mH_r5, mH_r6, mH_r8, mH_r9, mH_r10, mH_r11, mH_r12, mH_r14, mH_i0, mH_i2, mH_i7, mH_i13, mH_i15, mH_t71, mH_t, mH_lr, mH_l65, mH_l69, mH_l70, mH_l71, mH_l72, mH_l73, mH_l74, mH_l75, mH_c]
              refine e_step (pc' := 192) hK rfl rfl rfl ?_
              try simp only [List.set_cons_zero, List.set_cons_succ]
              refine e_goto (t := 83) hK rfl (by decide) ?_
              rw [if_neg (by omega), if_pos hb145] at hcr2
              refine ih u (glo A t i) (n + 1) _ _ _ ⟨hj.1, by omega, hj.2.2.1, hj.2.2.2.1, by omega, by omega, by omega, by omega, ?_, ms_t hw hu.1⟩
              rw [← hRR, hcr2]
          · replace hb145 := cq_eq.2.mp hb145
            refine e_step (pc' := 150) hK rfl rfl rfl ?_
            refine e_step (pc' := 152) hK rfl rfl rfl ?_
            refine e_icmp (t := 159) (pc' := 155) hK rfl (by first | omega | (have q9 := glo_b A t i; omega)) (by first | omega | (have q9 := glo_b A t i; omega)) (by decide) rfl (fun hb152 => ?_) (fun hb152 => ?_)
            · replace hb152 := cq_ne.1.mp hb152
              refine e_step (pc' := 160) hK rfl rfl rfl ?_
              refine e_step (pc' := 162) hK rfl rfl rfl ?_
              try simp only [List.set_cons_zero, List.set_cons_succ]
              refine e_step (pc' := 164) hK rfl rfl rfl ?_
              refine e_step (pc' := 166) hK rfl rfl rfl ?_
              refine e_if (t := 173) (pc' := 169) hK rfl (by first | omega | (have q9 := glo_b A t i; omega)) (by decide) rfl (fun hb166 => ?_) (fun hb166 => ?_)
              · replace hb166 := cq_eq.1.mp hb166
                refine e_step (pc' := 174) hK rfl rfl rfl ?_
                refine e_step (pc' := 175) hK rfl rfl rfl ?_
                refine e_step (pc' := 177) hK rfl rfl rfl ?_
                try simp only [List.set_cons_zero, List.set_cons_succ]
                refine e_step (pc' := 179) hK rfl rfl rfl ?_
                refine e_step (pc' := 181) hK rfl rfl rfl ?_
                try simp only [List.set_cons_zero, List.set_cons_succ]
                refine e_step (pc' := 182) hK rfl rfl rfl ?_
                refine e_step (pc' := 183) hK rfl rfl rfl ?_
                refine e_getR (ci := 4) (k := 3) (pc' := 186) hK rfl (by simp (disch := omega) only [mH_t64, mH_r1, mH_r3, mH_r4, mH_r5, mH_r6, mH_r8, mH_r9, mH_r10, mH_r11, mH_r12, mH_r14, mH_i0, mH_i2, mH_i7, mH_i13, mH_i15, mH_t71, mH_t, mH_lr, mH_l65, mH_l69, mH_l70, mH_l71, mH_l72, mH_l73, mH_l74, mH_l75, mH_c]) rfl rfl (by decide) (by decide) (by (try simp (disch := omega) only [mH_t64, mH_r1, mH_r3, mH_r4, mH_r5, mH_r6, mH_r8, mH_r9, mH_r10, mH_r11, mH_r12, mH_r14, mH_i0, mH_i2, mH_i7, mH_i13, mH_i15, mH_t71, mH_t, mH_lr, mH_l65, mH_l69, mH_l70, mH_l71, mH_l72, mH_l73, mH_l74, mH_l75, mH_c]); first | omega | (have q9 := glo_b A t i; omega)) rfl ?_
                try simp (disch := omega) only [mH_t64, mH_r1, mH_r3, mH_r4, mH_r5, mH_r6, mH_r8, mH_r9, mH_r10, mH_r11, mH_r12, mH_r14, mH_i0, mH_i2, mH_i7, mH_i13, mH_i15, mH_t71, mH_t, mH_lr, mH_l65, mH_l69, mH_l70, mH_l71, mH_l72, mH_l73, mH_l74, mH_l75, mH_c]
                refine e_step (pc' := 187) hK rfl rfl rfl ?_
                refine e_cRV3 (z := 124) (pc' := 190) hK rfl rfl (by first | (simp (disch := omega) only [mH_t64, mH_r1, mH_r3, mH_r4, mH_r5, mH_r6, mH_r8, mH_r9, mH_r10, mH_r11, mH_r12, mH_r14, mH_i0, mH_i2, mH_i7, mH_i13, mH_i15, mH_t71, mH_t, mH_lr, mH_l65, mH_l69, mH_l70, mH_l71, mH_l72, mH_l73, mH_l74, mH_l75, mH_c]; rfl) | (show _ = 2; assumption) | (show _ = 1; assumption) | (show _ = 0; assumption) | (show _ = 3; assumption) | (show _ = 4; assumption)) rfl (Nat.le_of_ble_eq_true rfl) (Nat.le_of_ble_eq_true rfl) (m_val 266 (by omega) pu k3j) (by decide) rfl ?_
                try simp (disch := omega) only [mH_t64, mH_r1, mH_r3, mH_r4, mH_r5, mH_r6, mH_r8, mH_r9, mH_r10, mH_r11, mH_r12, mH_r14, mH_i0, mH_i2, mH_i7, mH_i13, mH_i15, mH_t71, mH_t, mH_lr, mH_l65, mH_l69, mH_l70, mH_l71, mH_l72, mH_l73, mH_l74, mH_l75, mH_c]
                refine e_step (pc' := 192) hK rfl rfl rfl ?_
                try simp only [List.set_cons_zero, List.set_cons_succ]
                refine e_goto (t := 83) hK rfl (by decide) ?_
                refine e_step (pc' := 85) hK rfl rfl rfl ?_
                refine e_if (t := 195) (pc' := 88) hK rfl (by omega) (by decide) rfl (fun hb85 => ?_) (fun hb85 => ?_)
                · replace hb85 := cq_eq.1.mp hb85
                  refine e_step (pc' := 197) hK rfl rfl rfl ?_
                  refine e_ret hK rfl rfl rfl ?_
                  refine ⟨?_, rfl, u, rfl, ms_t hw hu.1⟩
                  rw [← hRR, hcr2, if_pos ⟨by omega, by rw [if_neg hb145]; exact hb152⟩, Int.add_zero]
                · replace hb85 := cq_eq.2.mp hb85
                  exfalso; first | omega | exact absurd trivial (by assumption)
              · replace hb166 := cq_eq.2.mp hb166
                exfalso; first | omega | exact absurd trivial (by assumption) | (first | omega | (have q9 := glo_b A t i; omega))
            · replace hb152 := cq_ne.2.mp hb152
              refine e_step (pc' := 156) hK rfl rfl rfl ?_
              refine e_goto (t := 160) hK rfl (by decide) ?_
              refine e_step (pc' := 162) hK rfl rfl rfl ?_
              try simp only [List.set_cons_zero, List.set_cons_succ]
              refine e_step (pc' := 164) hK rfl rfl rfl ?_
              refine e_step (pc' := 166) hK rfl rfl rfl ?_
              refine e_if (t := 173) (pc' := 169) hK rfl (by first | omega | (have q9 := glo_b A t i; omega)) (by decide) rfl (fun hb166 => ?_) (fun hb166 => ?_)
              · replace hb166 := cq_eq.1.mp hb166
                exfalso; first | omega | exact absurd trivial (by assumption) | (first | omega | (have q9 := glo_b A t i; omega))
              · replace hb166 := cq_eq.2.mp hb166
                refine e_step (pc' := 170) hK rfl rfl rfl ?_
                refine e_goto (t := 174) hK rfl (by decide) ?_
                refine e_step (pc' := 175) hK rfl rfl rfl ?_
                refine e_step (pc' := 177) hK rfl rfl rfl ?_
                try simp only [List.set_cons_zero, List.set_cons_succ]
                refine e_step (pc' := 179) hK rfl rfl rfl ?_
                refine e_step (pc' := 181) hK rfl rfl rfl ?_
                try simp only [List.set_cons_zero, List.set_cons_succ]
                refine e_step (pc' := 182) hK rfl rfl rfl ?_
                refine e_step (pc' := 183) hK rfl rfl rfl ?_
                refine e_getR (ci := 4) (k := 3) (pc' := 186) hK rfl (by simp (disch := omega) only [mH_t64, mH_r1, mH_r3, mH_r4, mH_r5, mH_r6, mH_r8, mH_r9, mH_r10, mH_r11, mH_r12, mH_r14, mH_i0, mH_i2, mH_i7, mH_i13, mH_i15, mH_t71, mH_t, mH_lr, mH_l65, mH_l69, mH_l70, mH_l71, mH_l72, mH_l73, mH_l74, mH_l75, mH_c]) rfl rfl (by decide) (by decide) (by (try simp (disch := omega) only [mH_t64, mH_r1, mH_r3, mH_r4, mH_r5, mH_r6, mH_r8, mH_r9, mH_r10, mH_r11, mH_r12, mH_r14, mH_i0, mH_i2, mH_i7, mH_i13, mH_i15, mH_t71, mH_t, mH_lr, mH_l65, mH_l69, mH_l70, mH_l71, mH_l72, mH_l73, mH_l74, mH_l75, mH_c]); first | omega | (have q9 := glo_b A t i; omega)) rfl ?_
                try simp (disch := omega) only [mH_t64, mH_r1, mH_r3, mH_r4, mH_r5, mH_r6, mH_r8, mH_r9, mH_r10, mH_r11, mH_r12, mH_r14, mH_i0, mH_i2, mH_i7, mH_i13, mH_i15, mH_t71, mH_t, mH_lr, mH_l65, mH_l69, mH_l70, mH_l71, mH_l72, mH_l73, mH_l74, mH_l75, mH_c]
                refine e_step (pc' := 187) hK rfl rfl rfl ?_
                refine e_cRV3 (z := 124) (pc' := 190) hK rfl rfl (by first | (simp (disch := omega) only [mH_t64, mH_r1, mH_r3, mH_r4, mH_r5, mH_r6, mH_r8, mH_r9, mH_r10, mH_r11, mH_r12, mH_r14, mH_i0, mH_i2, mH_i7, mH_i13, mH_i15, mH_t71, mH_t, mH_lr, mH_l65, mH_l69, mH_l70, mH_l71, mH_l72, mH_l73, mH_l74, mH_l75, mH_c]; rfl) | (show _ = 2; assumption) | (show _ = 1; assumption) | (show _ = 0; assumption) | (show _ = 3; assumption) | (show _ = 4; assumption)) rfl (Nat.le_of_ble_eq_true rfl) (Nat.le_of_ble_eq_true rfl) (m_val 266 (by omega) pu k3j) (by decide) rfl ?_
                try simp (disch := omega) only [mH_t64, mH_r1, mH_r3, mH_r4, mH_r5, mH_r6, mH_r8, mH_r9, mH_r10, mH_r11, mH_r12, mH_r14, mH_i0, mH_i2, mH_i7, mH_i13, mH_i15, mH_t71, mH_t, mH_lr, mH_l65, mH_l69, mH_l70, mH_l71, mH_l72, mH_l73, mH_l74, mH_l75, mH_c]
                refine e_step (pc' := 192) hK rfl rfl rfl ?_
                try simp only [List.set_cons_zero, List.set_cons_succ]
                refine e_goto (t := 83) hK rfl (by decide) ?_
                rw [if_neg hb145, hb152] at hcr2
                rw [if_neg (by omega)] at hcr2
                refine ih u (glo A t i) (n + 1) _ _ _ ⟨hj.1, by omega, hj.2.2.1, hj.2.2.2.1, by omega, by omega, by omega, by omega, ?_, ms_t hw hu.1⟩
                rw [← hRR, hcr2]
                rw [hb152]
set_option maxRecDepth 10000 in
theorem g_rises {W : wt} (hM : MdA v W) (t : Int) (ht : mv_i t) (q : Int) (hq : mv_i q) : mv_Cl sc q_Mod_rises [(2, 264), (0, t), (0, q)] c (mH h v) (fun r c' h' => r = (0, (sp_rises W t q).2.1) ∧ c' = c ∧ ∃ w, h' = mH h w ∧ MdA w (sp_rises W t q).2.2 ∧ w 264 0 = (sp_rises W t q).1) := by
  have hM0 := hM
  obtain ⟨hTx, hR, ⟨hI, bn, bT⟩, hH, hz, hSv⟩ := hM
  have r0 := hR.1
  have r1 := hR.2.1
  show mv_Ev sc 143 0 [(2, 264), (0, t), (0, q), (5, 0), (5, 0), (5, 0), (5, 0), (5, 0), (5, 0)] [] c (mH h v) _
  have hK : (mv_m 143).1 = kc_Mod_rises := rfl
  refine e_step (pc' := 1) hK rfl rfl rfl ?_
  refine e_step (pc' := 2) hK rfl rfl rfl ?_
  refine e_getR (ci := 4) (k := 3) (pc' := 5) hK rfl (by simp (disch := omega) only [mH_t64, mH_r1, mH_r3, mH_r4, mH_r5, mH_r6, mH_r8, mH_r9, mH_r10, mH_r11, mH_r12, mH_r14, mH_i0, mH_i2, mH_i7, mH_i13, mH_i15, mH_t71, mH_t, mH_lr, mH_l65, mH_l69, mH_l70, mH_l71, mH_l72, mH_l73, mH_l74, mH_l75, mH_c]) rfl rfl (by decide) (by decide) (by (try simp (disch := omega) only [mH_t64, mH_r1, mH_r3, mH_r4, mH_r5, mH_r6, mH_r8, mH_r9, mH_r10, mH_r11, mH_r12, mH_r14, mH_i0, mH_i2, mH_i7, mH_i13, mH_i15, mH_t71, mH_t, mH_lr, mH_l65, mH_l69, mH_l70, mH_l71, mH_l72, mH_l73, mH_l74, mH_l75, mH_c]); first | omega | exact bo_i _) rfl ?_
  try simp (disch := omega) only [mH_t64, mH_r1, mH_r3, mH_r4, mH_r5, mH_r6, mH_r8, mH_r9, mH_r10, mH_r11, mH_r12, mH_r14, mH_i0, mH_i2, mH_i7, mH_i13, mH_i15, mH_t71, mH_t, mH_lr, mH_l65, mH_l69, mH_l70, mH_l71, mH_l72, mH_l73, mH_l74, mH_l75, mH_c]
  refine e_step (pc' := 6) hK rfl rfl rfl ?_
  refine e_step (pc' := 7) hK rfl rfl rfl ?_
  refine e_cRS3 (z := 141) (pc' := 10) hK rfl rfl rfl (Nat.le_of_ble_eq_true rfl) (Nat.le_of_ble_eq_true rfl) (m_isPiece 266 (by omega) hR hI t q ht hq) (by decide) rfl ?_
  try simp (disch := omega) only [mH_t64, mH_r1, mH_r3, mH_r4, mH_r5, mH_r6, mH_r8, mH_r9, mH_r10, mH_r11, mH_r12, mH_r14, mH_i0, mH_i2, mH_i7, mH_i13, mH_i15, mH_t71, mH_t, mH_lr, mH_l65, mH_l69, mH_l70, mH_l71, mH_l72, mH_l73, mH_l74, mH_l75, mH_c]
  refine e_if (t := 17) (pc' := 13) hK rfl (by first | omega | exact bo_i _) (by decide) rfl (fun hb10 => ?_) (fun hb10 => ?_)
  · replace hb10 := cq_eq.1.mp hb10
    try simp only [bo_0, Bool.not_eq_false] at hb10
    have hb10 := of_decide_eq_false hb10
    refine e_step (pc' := 18) hK rfl rfl rfl ?_
    refine e_cQV2 (z := 110) hK rfl rfl (by first | (simp (disch := omega) only [mH_t64, mH_r1, mH_r3, mH_r4, mH_r5, mH_r6, mH_r8, mH_r9, mH_r10, mH_r11, mH_r12, mH_r14, mH_i0, mH_i2, mH_i7, mH_i13, mH_i15, mH_t71, mH_t, mH_lr, mH_l65, mH_l69, mH_l70, mH_l71, mH_l72, mH_l73, mH_l74, mH_l75, mH_c]; rfl) | (show _ = 2; assumption) | (show _ = 1; assumption) | (show _ = 0; assumption) | (show _ = 3; assumption) | (show _ = 4; assumption)) rfl (Nat.le_of_ble_eq_true rfl) (Nat.le_of_ble_eq_true rfl) (m_refP 1 (by omega)) ?_
    rintro _ _ _ ⟨rfl, rfl, rfl⟩
    refine ⟨by show (0 : Nat) ≠ 4; decide, ?_⟩
    rw [if_neg (by show ¬ (0 : Nat) = 3; decide)]
    try dsimp only
    have hM1 := hM0.rf 1
    obtain ⟨v1, hv1⟩ : ∃ v1, v1 = gu v 264 (mv_up (v 264) 0 1) := ⟨_, rfl⟩
    rw [← hv1] at hM1 ⊢
    have z1 : v1 264 0 = 1 := by { rw [hv1, gu_s, up_s] }
    have eo1 : ∀ b : Int, b ≠ 264 → v1 b = v b := fun b hb => by { rw [hv1]; exact gu_n hb }
    have ef1 : ∀ k : Int, k ≠ 0 → v1 264 k = v 264 k := fun k hk => by { rw [hv1, gu_s, up_n hk] }
    have hR1 := hM1.2.1
    have ra1 := hR1.1
    have rb1 := hR1.2.1
    clear hv1
    show mv_Ev _ _ 21 _ _ _ _ _
    refine e_if (t := 26) (pc' := 24) hK rfl (by first | omega | exact bo_i _) (by decide) rfl (fun hb21 => ?_) (fun hb21 => ?_)
    · replace hb21 := cq_eq.1.mp hb21
      try simp only [bo_0, Bool.not_eq_false] at hb21
      exfalso; first | omega | exact absurd trivial (by assumption) | (first | omega | exact bo_i _)
    · replace hb21 := cq_eq.2.mp hb21
      try simp only [bo_0, Bool.not_eq_false] at hb21
      refine e_step (pc' := 25) hK rfl rfl rfl ?_
      refine e_ret hK rfl rfl rfl ?_
      have e9 : sp_rises W t q = (1, 0, W) := by { unfold sp_rises; (repeat (first | rw [if_pos (by omega)] | rw [if_neg (by omega)])) }
      rw [e9]
      exact ⟨rfl, rfl, v1, rfl, hM1, z1⟩
  · replace hb10 := cq_eq.2.mp hb10
    try simp only [bo_0, Bool.not_eq_false] at hb10
    have tb : 0 ≤ t ∧ t < gT (wA W) ∧ 0 ≤ q ∧ q < xn (gs (wA W) t) := of_decide_eq_true hb10
    have xb := xn_b (gSok hI tb.1 tb.2.1)
    have rk0 := (hR.2.2.2 t tb.1 tb.2.1).2 q tb.2.2.1 (by rw [← gs_S tb.1 tb.2.1]; exact tb.2.2.2)
    have kb := gk_i hI tb.1 tb.2.1 tb.2.2.1 tb.2.2.2
    refine e_step (pc' := 14) hK rfl rfl rfl ?_
    refine e_goto (t := 18) hK rfl (by decide) ?_
    refine e_cQV2 (z := 110) hK rfl rfl (by first | (simp (disch := omega) only [mH_t64, mH_r1, mH_r3, mH_r4, mH_r5, mH_r6, mH_r8, mH_r9, mH_r10, mH_r11, mH_r12, mH_r14, mH_i0, mH_i2, mH_i7, mH_i13, mH_i15, mH_t71, mH_t, mH_lr, mH_l65, mH_l69, mH_l70, mH_l71, mH_l72, mH_l73, mH_l74, mH_l75, mH_c]; rfl) | (show _ = 2; assumption) | (show _ = 1; assumption) | (show _ = 0; assumption) | (show _ = 3; assumption) | (show _ = 4; assumption)) rfl (Nat.le_of_ble_eq_true rfl) (Nat.le_of_ble_eq_true rfl) (m_ref0) ?_
    rintro _ _ _ ⟨rfl, rfl, rfl⟩
    refine ⟨by show (0 : Nat) ≠ 4; decide, ?_⟩
    rw [if_neg (by show ¬ (0 : Nat) = 3; decide)]
    try dsimp only
    have hM1 := hM0.rf 0
    obtain ⟨v1, hv1⟩ : ∃ v1, v1 = gu v 264 (mv_up (v 264) 0 0) := ⟨_, rfl⟩
    rw [← hv1] at hM1 ⊢
    have z1 : v1 264 0 = 0 := by { rw [hv1, gu_s, up_s] }
    have eo1 : ∀ b : Int, b ≠ 264 → v1 b = v b := fun b hb => by { rw [hv1]; exact gu_n hb }
    have ef1 : ∀ k : Int, k ≠ 0 → v1 264 k = v 264 k := fun k hk => by { rw [hv1, gu_s, up_n hk] }
    have hR1 := hM1.2.1
    have ra1 := hR1.1
    have rb1 := hR1.2.1
    clear hv1
    show mv_Ev _ _ 21 _ _ _ _ _
    refine e_if (t := 26) (pc' := 24) hK rfl (by first | omega | exact bo_i _) (by decide) rfl (fun hb21 => ?_) (fun hb21 => ?_)
    · replace hb21 := cq_eq.1.mp hb21
      try simp only [bo_0, Bool.not_eq_false] at hb21
      have rk : v1 266 (1052 + 13 * t + 1 + q) = gk (wA W) t q := by { rw [eo1 266 (by omega)]; exact rk0 }
      refine e_step (pc' := 27) hK rfl rfl rfl ?_
      refine e_getR (ci := 4) (k := 3) (pc' := 30) hK rfl (by simp (disch := omega) only [mH_t64, mH_r1, mH_r3, mH_r4, mH_r5, mH_r6, mH_r8, mH_r9, mH_r10, mH_r11, mH_r12, mH_r14, mH_i0, mH_i2, mH_i7, mH_i13, mH_i15, mH_t71, mH_t, mH_lr, mH_l65, mH_l69, mH_l70, mH_l71, mH_l72, mH_l73, mH_l74, mH_l75, mH_c, ra1, rb1, rk]) rfl rfl (by decide) (by decide) (by (try simp (disch := omega) only [mH_t64, mH_r1, mH_r3, mH_r4, mH_r5, mH_r6, mH_r8, mH_r9, mH_r10, mH_r11, mH_r12, mH_r14, mH_i0, mH_i2, mH_i7, mH_i13, mH_i15, mH_t71, mH_t, mH_lr, mH_l65, mH_l69, mH_l70, mH_l71, mH_l72, mH_l73, mH_l74, mH_l75, mH_c, ra1, rb1, rk]); first | omega | exact bo_i _) rfl ?_
      try simp (disch := omega) only [mH_t64, mH_r1, mH_r3, mH_r4, mH_r5, mH_r6, mH_r8, mH_r9, mH_r10, mH_r11, mH_r12, mH_r14, mH_i0, mH_i2, mH_i7, mH_i13, mH_i15, mH_t71, mH_t, mH_lr, mH_l65, mH_l69, mH_l70, mH_l71, mH_l72, mH_l73, mH_l74, mH_l75, mH_c, ra1, rb1, rk]
      refine e_step (pc' := 31) hK rfl rfl rfl ?_
      refine e_step (pc' := 32) hK rfl rfl rfl ?_
      refine e_cRS3 (z := 120) (pc' := 35) hK rfl rfl rfl (Nat.le_of_ble_eq_true rfl) (Nat.le_of_ble_eq_true rfl) (m_kindOf 266 (by omega) t q (by omega) (by omega)) (by decide) rfl ?_
      try simp (disch := omega) only [mH_t64, mH_r1, mH_r3, mH_r4, mH_r5, mH_r6, mH_r8, mH_r9, mH_r10, mH_r11, mH_r12, mH_r14, mH_i0, mH_i2, mH_i7, mH_i13, mH_i15, mH_t71, mH_t, mH_lr, mH_l65, mH_l69, mH_l70, mH_l71, mH_l72, mH_l73, mH_l74, mH_l75, mH_c, ra1, rb1, rk]
      refine e_step (pc' := 36) hK rfl rfl rfl ?_
      refine e_icmp (t := 43) (pc' := 39) hK rfl (by first | omega | exact bo_i _) (by first | omega | exact bo_i _) (by decide) rfl (fun hb36 => ?_) (fun hb36 => ?_)
      · replace hb36 := cq_eq.1.mp hb36
        try simp only [bo_0, Bool.not_eq_false] at hb36
        have hg := gla_b hI tb.1 tb.2.1
        have hgl := gI_l hI hg.1 hg.2.1 hg.2.2
        have k3 := (gI_k3 hI hg.1 hg.2.1 hg.2.2 tb.2.2.1 tb.2.2.2).1.mp hb36
        refine e_step (pc' := 44) hK rfl rfl rfl ?_
        refine e_getR (ci := 4) (k := 3) (pc' := 47) hK rfl (by simp (disch := omega) only [mH_t64, mH_r1, mH_r3, mH_r4, mH_r5, mH_r6, mH_r8, mH_r9, mH_r10, mH_r11, mH_r12, mH_r14, mH_i0, mH_i2, mH_i7, mH_i13, mH_i15, mH_t71, mH_t, mH_lr, mH_l65, mH_l69, mH_l70, mH_l71, mH_l72, mH_l73, mH_l74, mH_l75, mH_c, ra1, rb1, rk]) rfl rfl (by decide) (by decide) (by (try simp (disch := omega) only [mH_t64, mH_r1, mH_r3, mH_r4, mH_r5, mH_r6, mH_r8, mH_r9, mH_r10, mH_r11, mH_r12, mH_r14, mH_i0, mH_i2, mH_i7, mH_i13, mH_i15, mH_t71, mH_t, mH_lr, mH_l65, mH_l69, mH_l70, mH_l71, mH_l72, mH_l73, mH_l74, mH_l75, mH_c, ra1, rb1, rk]); first | omega | exact bo_i _) rfl ?_
        try simp (disch := omega) only [mH_t64, mH_r1, mH_r3, mH_r4, mH_r5, mH_r6, mH_r8, mH_r9, mH_r10, mH_r11, mH_r12, mH_r14, mH_i0, mH_i2, mH_i7, mH_i13, mH_i15, mH_t71, mH_t, mH_lr, mH_l65, mH_l69, mH_l70, mH_l71, mH_l72, mH_l73, mH_l74, mH_l75, mH_c, ra1, rb1, rk]
        refine e_step (pc' := 48) hK rfl rfl rfl ?_
        refine e_cRS2 (z := 144) (pc' := 51) hK rfl rfl rfl (Nat.le_of_ble_eq_true rfl) (Nat.le_of_ble_eq_true rfl) (m_last 266 (by omega) hR1 hI t (by omega)) (by decide) rfl ?_
        try simp (disch := omega) only [mH_t64, mH_r1, mH_r3, mH_r4, mH_r5, mH_r6, mH_r8, mH_r9, mH_r10, mH_r11, mH_r12, mH_r14, mH_i0, mH_i2, mH_i7, mH_i13, mH_i15, mH_t71, mH_t, mH_lr, mH_l65, mH_l69, mH_l70, mH_l71, mH_l72, mH_l73, mH_l74, mH_l75, mH_c, ra1, rb1, rk]
        refine e_step (pc' := 52) hK rfl rfl rfl ?_
        try simp only [List.set_cons_zero, List.set_cons_succ]
        refine e_step (pc' := 53) hK rfl rfl rfl ?_
        refine e_step (pc' := 54) hK rfl rfl rfl ?_
        refine e_getR (ci := 4) (k := 3) (pc' := 57) hK rfl (by simp (disch := omega) only [mH_t64, mH_r1, mH_r3, mH_r4, mH_r5, mH_r6, mH_r8, mH_r9, mH_r10, mH_r11, mH_r12, mH_r14, mH_i0, mH_i2, mH_i7, mH_i13, mH_i15, mH_t71, mH_t, mH_lr, mH_l65, mH_l69, mH_l70, mH_l71, mH_l72, mH_l73, mH_l74, mH_l75, mH_c, ra1, rb1, rk]) rfl rfl (by decide) (by decide) (by (try simp (disch := omega) only [mH_t64, mH_r1, mH_r3, mH_r4, mH_r5, mH_r6, mH_r8, mH_r9, mH_r10, mH_r11, mH_r12, mH_r14, mH_i0, mH_i2, mH_i7, mH_i13, mH_i15, mH_t71, mH_t, mH_lr, mH_l65, mH_l69, mH_l70, mH_l71, mH_l72, mH_l73, mH_l74, mH_l75, mH_c, ra1, rb1, rk]); first | omega | exact bo_i _) rfl ?_
        try simp (disch := omega) only [mH_t64, mH_r1, mH_r3, mH_r4, mH_r5, mH_r6, mH_r8, mH_r9, mH_r10, mH_r11, mH_r12, mH_r14, mH_i0, mH_i2, mH_i7, mH_i13, mH_i15, mH_t71, mH_t, mH_lr, mH_l65, mH_l69, mH_l70, mH_l71, mH_l72, mH_l73, mH_l74, mH_l75, mH_c, ra1, rb1, rk]
        refine e_step (pc' := 58) hK rfl rfl rfl ?_
        refine e_step (pc' := 59) hK rfl rfl rfl ?_
        refine e_cQV4 (z := 123) hK rfl rfl (by first | (simp (disch := omega) only [mH_t64, mH_r1, mH_r3, mH_r4, mH_r5, mH_r6, mH_r8, mH_r9, mH_r10, mH_r11, mH_r12, mH_r14, mH_i0, mH_i2, mH_i7, mH_i13, mH_i15, mH_t71, mH_t, mH_lr, mH_l65, mH_l69, mH_l70, mH_l71, mH_l72, mH_l73, mH_l74, mH_l75, mH_c, ra1, rb1, rk]; rfl) | (show _ = 2; assumption) | (show _ = 1; assumption) | (show _ = 0; assumption) | (show _ = 3; assumption) | (show _ = 4; assumption)) rfl (Nat.le_of_ble_eq_true rfl) (Nat.le_of_ble_eq_true rfl) (m_cut 266 (by omega) (gla (wA W) t) 0 ⟨hg.1, by omega⟩ (Or.inl rfl) hgl.2.2.1 (hR1.2.2.1 _ hg.1 hg.2.1).1) ?_
        rintro _ _ _ ⟨rfl, rfl, w, rfl, hw, kw⟩
        refine ⟨by show (0 : Nat) ≠ 4; decide, ?_⟩
        rw [if_neg (by show ¬ (0 : Nat) = 3; decide)]
        try dsimp only
        have ew : w 266 = v1 266 := hw.1 266 (by omega) (by omega) (by omega)
        have pw : Pc w (w 266) q (gla (wA W) t) (gL (wA W) (gla (wA W) t)) q := Pc_of (o := 0) kw (by rw [ew]; exact (hR1.2.2.1 _ hg.1 hg.2.1).1) ⟨hg.1, by omega⟩ hgl.2.2.1 (Or.inl rfl) tb.2.2.1 (by omega) (by omega)
        have v1b := xv_b3 hgl.2.2.1 k3
        show mv_Ev _ _ 62 _ _ _ _ _
        refine e_step (pc' := 63) hK rfl rfl rfl ?_
        refine e_step (pc' := 64) hK rfl rfl rfl ?_
        refine e_step (pc' := 65) hK rfl rfl rfl ?_
        refine e_getR (ci := 4) (k := 3) (pc' := 68) hK rfl (by simp (disch := omega) only [mH_t64, mH_r1, mH_r3, mH_r4, mH_r5, mH_r6, mH_r8, mH_r9, mH_r10, mH_r11, mH_r12, mH_r14, mH_i0, mH_i2, mH_i7, mH_i13, mH_i15, mH_t71, mH_t, mH_lr, mH_l65, mH_l69, mH_l70, mH_l71, mH_l72, mH_l73, mH_l74, mH_l75, mH_c, ra1, rb1, rk]) rfl rfl (by decide) (by decide) (by (try simp (disch := omega) only [mH_t64, mH_r1, mH_r3, mH_r4, mH_r5, mH_r6, mH_r8, mH_r9, mH_r10, mH_r11, mH_r12, mH_r14, mH_i0, mH_i2, mH_i7, mH_i13, mH_i15, mH_t71, mH_t, mH_lr, mH_l65, mH_l69, mH_l70, mH_l71, mH_l72, mH_l73, mH_l74, mH_l75, mH_c, ra1, rb1, rk]); first | omega | exact bo_i _) rfl ?_
        try simp (disch := omega) only [mH_t64, mH_r1, mH_r3, mH_r4, mH_r5, mH_r6, mH_r8, mH_r9, mH_r10, mH_r11, mH_r12, mH_r14, mH_i0, mH_i2, mH_i7, mH_i13, mH_i15, mH_t71, mH_t, mH_lr, mH_l65, mH_l69, mH_l70, mH_l71, mH_l72, mH_l73, mH_l74, mH_l75, mH_c, ra1, rb1, rk]
        refine e_step (pc' := 69) hK rfl rfl rfl ?_
        refine e_cRV3 (z := 124) (pc' := 72) hK rfl rfl (by first | (simp (disch := omega) only [mH_t64, mH_r1, mH_r3, mH_r4, mH_r5, mH_r6, mH_r8, mH_r9, mH_r10, mH_r11, mH_r12, mH_r14, mH_i0, mH_i2, mH_i7, mH_i13, mH_i15, mH_t71, mH_t, mH_lr, mH_l65, mH_l69, mH_l70, mH_l71, mH_l72, mH_l73, mH_l74, mH_l75, mH_c, ra1, rb1, rk]; rfl) | (show _ = 2; assumption) | (show _ = 1; assumption) | (show _ = 0; assumption) | (show _ = 3; assumption) | (show _ = 4; assumption)) rfl (Nat.le_of_ble_eq_true rfl) (Nat.le_of_ble_eq_true rfl) (m_val 266 (by omega) pw k3) (by decide) rfl ?_
        try simp (disch := omega) only [mH_t64, mH_r1, mH_r3, mH_r4, mH_r5, mH_r6, mH_r8, mH_r9, mH_r10, mH_r11, mH_r12, mH_r14, mH_i0, mH_i2, mH_i7, mH_i13, mH_i15, mH_t71, mH_t, mH_lr, mH_l65, mH_l69, mH_l70, mH_l71, mH_l72, mH_l73, mH_l74, mH_l75, mH_c, ra1, rb1, rk]
        refine e_step (pc' := 74) hK rfl rfl rfl ?_
        try simp only [List.set_cons_zero, List.set_cons_succ]
        refine e_step (pc' := 75) hK rfl rfl rfl ?_
        refine e_step (pc' := 77) hK rfl rfl rfl ?_
        try simp only [List.set_cons_zero, List.set_cons_succ]
        refine e_step (pc' := 78) hK rfl rfl rfl ?_
        refine e_step (pc' := 80) hK rfl rfl rfl ?_
        try simp only [List.set_cons_zero, List.set_cons_succ]
        refine e_step (pc' := 81) hK rfl rfl rfl ?_
        refine e_step (pc' := 83) hK rfl rfl rfl ?_
        try simp only [List.set_cons_zero, List.set_cons_succ]
        have hcr := (crs_st (A := wA W) (t := t) (p := q) (m := gn (wA W)) (l := 0) (s := 0) (v := 0) (Nat.le_refl _)).2 (by show gla (wA W) t ≠ -9999; omega)
        rw [if_neg (by omega), if_neg (by omega)] at hcr
        have hcr : crs (wA W) t q (gn (wA W)) 0 0 0 = crs (wA W) t q (gla (wA W) t).toNat (0 + 1) 0 (xv (gl (wA W) (gla (wA W) t)) q) := hcr
        rw [gl_L hg.1 hg.2.1] at hcr
        refine (g_risesL hR1 hI t q (crs (wA W) t q (gn (wA W)) 0 0 0) tb.1 tb.2.1 tb.2.2.1 tb.2.2.2 hb36 (gla (wA W) t).toNat w (gla (wA W) t) 1 0 _ _ ⟨hg.1, by omega, hg.2.1, hg.2.2, by omega, by omega, by omega, by omega, hcr.symm, hw.1⟩).mono (fun r c' h' hq => ?_)
        obtain ⟨rfl, rfl, w3, rfl, hw3⟩ := hq
        have e9 : sp_rises W t q = (0, crs (wA W) t q (gn (wA W)) 0 0 0, W) := by { unfold sp_rises; (repeat (first | rw [if_pos (by omega)] | rw [if_neg (by omega)])) }
        rw [e9]
        exact ⟨rfl, rfl, w3, rfl, hM1.ms hw3, (congrFun (hw3 264 (by omega) (by omega) (by omega)) 0).trans z1⟩
      · replace hb36 := cq_eq.2.mp hb36
        try simp only [bo_0, Bool.not_eq_false] at hb36
        refine e_step (pc' := 42) hK rfl rfl rfl ?_
        refine e_ret hK rfl rfl rfl ?_
        have e9 : sp_rises W t q = (0, -9999, W) := by { unfold sp_rises; (repeat (first | rw [if_pos (by omega)] | rw [if_neg (by omega)])) }
        rw [e9]
        exact ⟨rfl, rfl, v1, rfl, hM1, z1⟩
    · replace hb21 := cq_eq.2.mp hb21
      try simp only [bo_0, Bool.not_eq_false] at hb21
      exfalso; first | omega | exact absurd trivial (by assumption) | (first | omega | exact bo_i _)
end GE
