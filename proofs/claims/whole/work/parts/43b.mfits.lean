/-! the reference: fits, costs (written by wip/whole/m43.py) -/
section MF
variable {sc : Int × (Int → Int)} {c : mv_C} {h : mv_H} {v : mvt}
set_option maxRecDepth 10000 in
theorem m_fits1 (a : Int) (ha : 266 ≤ a ∧ a ≤ 268) {A : lg} (hR : Rw (v a) A) (hI : gI A) (t : Int) (h0 : 0 ≤ t) (h1 : t < gT A) {i g : Int} {x : xt} (hg0 : 0 ≤ g) (hg1 : g < gn A) (hg : gP A g = t) (hn : xn x = xn (gs A t)) (hx : ∀ p : Int, 0 ≤ p → p < xn x → Pc v (v a) p i x p) (hy : ∀ p : Int, 0 ≤ p → p < xn x → Pc v (v a) (12 + p) g (gL A g) p) : ∀ (m : Nat) (k : Nat) (a6 a7 : mv_V), k + m = (xn x).toNat ∧ la (fun p => mal A x (gL A g) t p) k = true → mv_Ev sc 149 38 [(2, 264), (2, a), (0, i), (0, t), (0, xn x), (0, (k : Int)), a6, a7] [] c (mH h v) (mv_Rd (0, mv_bo (gf A x t)) c (mH h v)) := by
  intro m
  induction m with
  | zero =>
    intro k a6 a7 ⟨hk, hla⟩
    have b1 := hI.1
    have b2 := hI.2.1
    have r0 := hR.1
    have r1 := hR.2.1
    have b3 := xn_b (gSok hI h0 h1)
    have b4 := hx k (by omega)
    have rk := fun (hk1 : (k : Int) < xn x) => (hR.2.2.2 t h0 h1).2 k (by omega) (by rw [← gs_S h0 h1]; omega)
    have kb := fun (hk1 : (k : Int) < xn x) => gk_i hI h0 h1 (show (0 : Int) ≤ k by omega) (by omega)
    have eK : (k : Int) < xn x → v 274 (k : Int) = xk x k := fun hk1 => (hx k (by omega) hk1).2.2.2.2
    have kx : (k : Int) < xn x → 0 ≤ xk x k ∧ xk x k ≤ 3 := fun hk1 => (Pc_b (hx k (by omega) hk1)).2.2.2.2
    have hK : (mv_m 149).1 = kc_Mod_fits := rfl
    refine e_step (pc' := 40) hK rfl rfl rfl ?_
    refine e_step (pc' := 42) hK rfl rfl rfl ?_
    refine e_icmp (t := 150) (pc' := 45) hK rfl (by first | omega | exact bo_i _) (by first | omega | exact bo_i _) (by decide) rfl (fun hb42 => ?_) (fun hb42 => ?_)
    · replace hb42 := cq_ge.1.mp hb42
      try simp only [bo_0, Bool.not_eq_false] at hb42
      refine e_step (pc' := 151) hK rfl rfl rfl ?_
      refine e_ret hK rfl rfl (by first | rfl | (simp only [mv_ret]; rw [if_pos]; exact Or.inr ⟨rfl, by omega⟩) | (simp only [mv_ret]; rw [if_pos]; exact Or.inr ⟨rfl, by unfold mv_bo; split <;> first | exact Or.inl rfl | exact Or.inr rfl⟩)) ?_
      have e : k = (xn x).toNat := by omega
      rw [gf_mal hI hg0 hg1 hg hn, ← e, hla]
      exact ⟨rfl, rfl, rfl⟩
    · replace hb42 := cq_ge.2.mp hb42
      try simp only [bo_0, Bool.not_eq_false] at hb42
      exfalso; first | omega | exact absurd trivial (by assumption) | (first | omega | exact bo_i _)
  | succ m ih =>
    intro k a6 a7 ⟨hk, hla⟩
    have b1 := hI.1
    have b2 := hI.2.1
    have r0 := hR.1
    have r1 := hR.2.1
    have b3 := xn_b (gSok hI h0 h1)
    have b4 := hx k (by omega)
    have rk := fun (hk1 : (k : Int) < xn x) => (hR.2.2.2 t h0 h1).2 k (by omega) (by rw [← gs_S h0 h1]; omega)
    have kb := fun (hk1 : (k : Int) < xn x) => gk_i hI h0 h1 (show (0 : Int) ≤ k by omega) (by omega)
    have eK : (k : Int) < xn x → v 274 (k : Int) = xk x k := fun hk1 => (hx k (by omega) hk1).2.2.2.2
    have kx : (k : Int) < xn x → 0 ≤ xk x k ∧ xk x k ≤ 3 := fun hk1 => (Pc_b (hx k (by omega) hk1)).2.2.2.2
    have hK : (mv_m 149).1 = kc_Mod_fits := rfl
    refine e_step (pc' := 40) hK rfl rfl rfl ?_
    refine e_step (pc' := 42) hK rfl rfl rfl ?_
    refine e_icmp (t := 150) (pc' := 45) hK rfl (by first | omega | exact bo_i _) (by first | omega | exact bo_i _) (by decide) rfl (fun hb42 => ?_) (fun hb42 => ?_)
    · replace hb42 := cq_ge.1.mp hb42
      try simp only [bo_0, Bool.not_eq_false] at hb42
      exfalso; first | omega | exact absurd trivial (by assumption) | (first | omega | exact bo_i _)
    · replace hb42 := cq_ge.2.mp hb42
      try simp only [bo_0, Bool.not_eq_false] at hb42
      refine e_step (pc' := 46) hK rfl rfl rfl ?_
      refine e_step (pc' := 47) hK rfl rfl rfl ?_
      refine e_step (pc' := 49) hK rfl rfl rfl ?_
      refine e_cRS3 (z := 120) (pc' := 52) hK rfl rfl rfl (Nat.le_of_ble_eq_true rfl) (Nat.le_of_ble_eq_true rfl) (m_kindOf a ha t (k : Int) (by omega) (by omega)) (by decide) rfl ?_
      try simp (disch := omega) only [mH_t64, mH_r1, mH_r3, mH_r4, mH_r5, mH_r6, mH_r8, mH_r9, mH_r10, mH_r11, mH_r12, mH_r14, mH_i0, mH_i2, mH_i7, mH_i13, mH_i15, mH_t71, mH_t, mH_lr, mH_l65, mH_l69, mH_l70, mH_l71, mH_l72, mH_l73, mH_l74, mH_l75, mH_c, rk, eK]
      refine e_step (pc' := 54) hK rfl rfl rfl ?_
      try simp only [List.set_cons_zero, List.set_cons_succ]
      refine e_step (pc' := 56) hK rfl rfl rfl ?_
      refine e_step (pc' := 57) hK rfl rfl rfl ?_
      refine e_icmp (t := 79) (pc' := 60) hK rfl (by first | omega | exact bo_i _) (by first | omega | exact bo_i _) (by decide) rfl (fun hb57 => ?_) (fun hb57 => ?_)
      · replace hb57 := cq_ne.1.mp hb57
        try simp only [bo_0, Bool.not_eq_false] at hb57
        refine e_step (pc' := 81) hK rfl rfl rfl ?_
        refine e_step (pc' := 82) hK rfl rfl rfl ?_
        refine e_icmp (t := 103) (pc' := 85) hK rfl (by first | omega | exact bo_i _) (by first | omega | exact bo_i _) (by decide) rfl (fun hb82 => ?_) (fun hb82 => ?_)
        · replace hb82 := cq_ne.1.mp hb82
          try simp only [bo_0, Bool.not_eq_false] at hb82
          refine e_step (pc' := 104) hK rfl rfl rfl ?_
          refine e_getR (ci := 4) (k := 12) (pc' := 107) hK rfl (by simp (disch := omega) only [mH_t64, mH_r1, mH_r3, mH_r4, mH_r5, mH_r6, mH_r8, mH_r9, mH_r10, mH_r11, mH_r12, mH_r14, mH_i0, mH_i2, mH_i7, mH_i13, mH_i15, mH_t71, mH_t, mH_lr, mH_l65, mH_l69, mH_l70, mH_l71, mH_l72, mH_l73, mH_l74, mH_l75, mH_c, rk, eK]) rfl rfl (by decide) (by decide) (by (try simp (disch := omega) only [mH_t64, mH_r1, mH_r3, mH_r4, mH_r5, mH_r6, mH_r8, mH_r9, mH_r10, mH_r11, mH_r12, mH_r14, mH_i0, mH_i2, mH_i7, mH_i13, mH_i15, mH_t71, mH_t, mH_lr, mH_l65, mH_l69, mH_l70, mH_l71, mH_l72, mH_l73, mH_l74, mH_l75, mH_c, rk, eK]); first | omega | exact bo_i _) rfl ?_
          try simp (disch := omega) only [mH_t64, mH_r1, mH_r3, mH_r4, mH_r5, mH_r6, mH_r8, mH_r9, mH_r10, mH_r11, mH_r12, mH_r14, mH_i0, mH_i2, mH_i7, mH_i13, mH_i15, mH_t71, mH_t, mH_lr, mH_l65, mH_l69, mH_l70, mH_l71, mH_l72, mH_l73, mH_l74, mH_l75, mH_c, rk, eK]
          refine e_step (pc' := 109) hK rfl rfl rfl ?_
          refine e_iald (pc' := 110) hK rfl (by simp (disch := omega) only [mH_t64, mH_r1, mH_r3, mH_r4, mH_r5, mH_r6, mH_r8, mH_r9, mH_r10, mH_r11, mH_r12, mH_r14, mH_i0, mH_i2, mH_i7, mH_i13, mH_i15, mH_t71, mH_t, mH_lr, mH_l65, mH_l69, mH_l70, mH_l71, mH_l72, mH_l73, mH_l74, mH_l75, mH_c, rk, eK]) (by first | omega | exact bo_i _) (by (try simp (disch := omega) only [mH_t64, mH_r1, mH_r3, mH_r4, mH_r5, mH_r6, mH_r8, mH_r9, mH_r10, mH_r11, mH_r12, mH_r14, mH_i0, mH_i2, mH_i7, mH_i13, mH_i15, mH_t71, mH_t, mH_lr, mH_l65, mH_l69, mH_l70, mH_l71, mH_l72, mH_l73, mH_l74, mH_l75, mH_c, rk, eK]); first | omega | exact bo_i _) rfl ?_
          try simp (disch := omega) only [mH_t64, mH_r1, mH_r3, mH_r4, mH_r5, mH_r6, mH_r8, mH_r9, mH_r10, mH_r11, mH_r12, mH_r14, mH_i0, mH_i2, mH_i7, mH_i13, mH_i15, mH_t71, mH_t, mH_lr, mH_l65, mH_l69, mH_l70, mH_l71, mH_l72, mH_l73, mH_l74, mH_l75, mH_c, rk, eK]
          refine e_step (pc' := 112) hK rfl rfl rfl ?_
          refine e_icmp (t := 134) (pc' := 115) hK rfl (by first | omega | exact bo_i _) (by first | omega | exact bo_i _) (by decide) rfl (fun hb112 => ?_) (fun hb112 => ?_)
          · replace hb112 := cq_ne.1.mp hb112
            try simp only [bo_0, Bool.not_eq_false] at hb112
            refine e_step (pc' := 135) hK rfl rfl rfl ?_
            refine e_step (pc' := 137) hK rfl rfl rfl ?_
            try simp only [List.set_cons_zero, List.set_cons_succ]
            refine e_step (pc' := 139) hK rfl rfl rfl ?_
            refine e_if (t := 144) (pc' := 142) hK rfl (by first | omega | exact bo_i _) (by decide) rfl (fun hb139 => ?_) (fun hb139 => ?_)
            · replace hb139 := cq_ne.1.mp hb139
              try simp only [bo_0, Bool.not_eq_false] at hb139
              exfalso; first | omega | exact absurd trivial (by assumption) | (first | omega | exact bo_i _)
            · replace hb139 := cq_ne.2.mp hb139
              try simp only [bo_0, Bool.not_eq_false] at hb139
              refine e_step (pc' := 143) hK rfl rfl rfl ?_
              refine e_ret hK rfl rfl (by first | rfl | (simp only [mv_ret]; rw [if_pos]; exact Or.inr ⟨rfl, by omega⟩) | (simp only [mv_ret]; rw [if_pos]; exact Or.inr ⟨rfl, by unfold mv_bo; split <;> first | exact Or.inl rfl | exact Or.inr rfl⟩)) ?_
              have em : mal A x (gL A g) t k = false := by { unfold mal; rw [if_neg (by omega), if_neg (by omega), decide_eq_false (by omega)]; rfl }
              rw [gf_mal hI hg0 hg1 hg hn, la_f (q := fun p => mal A x (gL A g) t p) em (by omega)]
              exact ⟨rfl, rfl, rfl⟩
          · replace hb112 := cq_ne.2.mp hb112
            try simp only [bo_0, Bool.not_eq_false] at hb112
            refine e_step (pc' := 116) hK rfl rfl rfl ?_
            refine e_step (pc' := 117) hK rfl rfl rfl ?_
            refine e_step (pc' := 119) hK rfl rfl rfl ?_
            refine e_step (pc' := 121) hK rfl rfl rfl ?_
            refine e_step (pc' := 123) hK rfl rfl rfl ?_
            refine e_step (pc' := 124) hK rfl rfl rfl ?_
            refine e_cRV4 (z := 126) (pc' := 127) hK rfl rfl (by first | (simp (disch := omega) only [mH_t64, mH_r1, mH_r3, mH_r4, mH_r5, mH_r6, mH_r8, mH_r9, mH_r10, mH_r11, mH_r12, mH_r14, mH_i0, mH_i2, mH_i7, mH_i13, mH_i15, mH_t71, mH_t, mH_lr, mH_l65, mH_l69, mH_l70, mH_l71, mH_l72, mH_l73, mH_l74, mH_l75, mH_c, rk, eK]; rfl) | (show _ = 2; assumption) | (show _ = 1; assumption) | (show _ = 0; assumption) | (show _ = 3; assumption) | (show _ = 4; assumption)) rfl (Nat.le_of_ble_eq_true rfl) (Nat.le_of_ble_eq_true rfl) (m_same a ha (hx k (by omega) (by omega)) (hy k (by omega) (by omega))) (by decide) rfl ?_
            try simp (disch := omega) only [mH_t64, mH_r1, mH_r3, mH_r4, mH_r5, mH_r6, mH_r8, mH_r9, mH_r10, mH_r11, mH_r12, mH_r14, mH_i0, mH_i2, mH_i7, mH_i13, mH_i15, mH_t71, mH_t, mH_lr, mH_l65, mH_l69, mH_l70, mH_l71, mH_l72, mH_l73, mH_l74, mH_l75, mH_c, rk, eK]
            refine e_if (t := 134) (pc' := 130) hK rfl (by first | omega | exact bo_i _) (by decide) rfl (fun hb127 => ?_) (fun hb127 => ?_)
            · replace hb127 := cq_eq.1.mp hb127
              try simp only [bo_0, Bool.not_eq_false] at hb127
              refine e_step (pc' := 135) hK rfl rfl rfl ?_
              refine e_step (pc' := 137) hK rfl rfl rfl ?_
              try simp only [List.set_cons_zero, List.set_cons_succ]
              refine e_step (pc' := 139) hK rfl rfl rfl ?_
              refine e_if (t := 144) (pc' := 142) hK rfl (by first | omega | exact bo_i _) (by decide) rfl (fun hb139 => ?_) (fun hb139 => ?_)
              · replace hb139 := cq_ne.1.mp hb139
                try simp only [bo_0, Bool.not_eq_false] at hb139
                exfalso; first | omega | exact absurd trivial (by assumption) | (first | omega | exact bo_i _)
              · replace hb139 := cq_ne.2.mp hb139
                try simp only [bo_0, Bool.not_eq_false] at hb139
                refine e_step (pc' := 143) hK rfl rfl rfl ?_
                refine e_ret hK rfl rfl (by first | rfl | (simp only [mv_ret]; rw [if_pos]; exact Or.inr ⟨rfl, by omega⟩) | (simp only [mv_ret]; rw [if_pos]; exact Or.inr ⟨rfl, by unfold mv_bo; split <;> first | exact Or.inl rfl | exact Or.inr rfl⟩)) ?_
                have em : mal A x (gL A g) t k = false := by { unfold mal; rw [if_neg (by omega), if_neg (by omega), hb127, Bool.and_false] }
                rw [gf_mal hI hg0 hg1 hg hn, la_f (q := fun p => mal A x (gL A g) t p) em (by omega)]
                exact ⟨rfl, rfl, rfl⟩
            · replace hb127 := cq_eq.2.mp hb127
              try simp only [bo_0, Bool.not_eq_false] at hb127
              refine e_step (pc' := 131) hK rfl rfl rfl ?_
              refine e_goto (t := 135) hK rfl (by decide) ?_
              refine e_step (pc' := 137) hK rfl rfl rfl ?_
              try simp only [List.set_cons_zero, List.set_cons_succ]
              refine e_step (pc' := 139) hK rfl rfl rfl ?_
              refine e_if (t := 144) (pc' := 142) hK rfl (by first | omega | exact bo_i _) (by decide) rfl (fun hb139 => ?_) (fun hb139 => ?_)
              · replace hb139 := cq_ne.1.mp hb139
                try simp only [bo_0, Bool.not_eq_false] at hb139
                refine e_step (pc' := 147) hK rfl rfl rfl ?_
                try simp only [List.set_cons_zero, List.set_cons_succ]
                refine e_goto (t := 38) hK rfl (by decide) ?_
                have em : mal A x (gL A g) t k = true := by { unfold mal; rw [if_neg (by omega), if_neg (by omega), decide_eq_true (by omega), hb127]; rfl }
                exact ih (k + 1) _ _ ⟨by omega, la_s hla em⟩
              · replace hb139 := cq_ne.2.mp hb139
                try simp only [bo_0, Bool.not_eq_false] at hb139
                exfalso; first | omega | exact absurd trivial (by assumption) | (first | omega | exact bo_i _)
        · replace hb82 := cq_ne.2.mp hb82
          try simp only [bo_0, Bool.not_eq_false] at hb82
          refine e_step (pc' := 86) hK rfl rfl rfl ?_
          refine e_getR (ci := 4) (k := 12) (pc' := 89) hK rfl (by simp (disch := omega) only [mH_t64, mH_r1, mH_r3, mH_r4, mH_r5, mH_r6, mH_r8, mH_r9, mH_r10, mH_r11, mH_r12, mH_r14, mH_i0, mH_i2, mH_i7, mH_i13, mH_i15, mH_t71, mH_t, mH_lr, mH_l65, mH_l69, mH_l70, mH_l71, mH_l72, mH_l73, mH_l74, mH_l75, mH_c, rk, eK]) rfl rfl (by decide) (by decide) (by (try simp (disch := omega) only [mH_t64, mH_r1, mH_r3, mH_r4, mH_r5, mH_r6, mH_r8, mH_r9, mH_r10, mH_r11, mH_r12, mH_r14, mH_i0, mH_i2, mH_i7, mH_i13, mH_i15, mH_t71, mH_t, mH_lr, mH_l65, mH_l69, mH_l70, mH_l71, mH_l72, mH_l73, mH_l74, mH_l75, mH_c, rk, eK]); first | omega | exact bo_i _) rfl ?_
          try simp (disch := omega) only [mH_t64, mH_r1, mH_r3, mH_r4, mH_r5, mH_r6, mH_r8, mH_r9, mH_r10, mH_r11, mH_r12, mH_r14, mH_i0, mH_i2, mH_i7, mH_i13, mH_i15, mH_t71, mH_t, mH_lr, mH_l65, mH_l69, mH_l70, mH_l71, mH_l72, mH_l73, mH_l74, mH_l75, mH_c, rk, eK]
          refine e_step (pc' := 91) hK rfl rfl rfl ?_
          refine e_iald (pc' := 92) hK rfl (by simp (disch := omega) only [mH_t64, mH_r1, mH_r3, mH_r4, mH_r5, mH_r6, mH_r8, mH_r9, mH_r10, mH_r11, mH_r12, mH_r14, mH_i0, mH_i2, mH_i7, mH_i13, mH_i15, mH_t71, mH_t, mH_lr, mH_l65, mH_l69, mH_l70, mH_l71, mH_l72, mH_l73, mH_l74, mH_l75, mH_c, rk, eK]) (by first | omega | exact bo_i _) (by (try simp (disch := omega) only [mH_t64, mH_r1, mH_r3, mH_r4, mH_r5, mH_r6, mH_r8, mH_r9, mH_r10, mH_r11, mH_r12, mH_r14, mH_i0, mH_i2, mH_i7, mH_i13, mH_i15, mH_t71, mH_t, mH_lr, mH_l65, mH_l69, mH_l70, mH_l71, mH_l72, mH_l73, mH_l74, mH_l75, mH_c, rk, eK]); first | omega | exact bo_i _) rfl ?_
          try simp (disch := omega) only [mH_t64, mH_r1, mH_r3, mH_r4, mH_r5, mH_r6, mH_r8, mH_r9, mH_r10, mH_r11, mH_r12, mH_r14, mH_i0, mH_i2, mH_i7, mH_i13, mH_i15, mH_t71, mH_t, mH_lr, mH_l65, mH_l69, mH_l70, mH_l71, mH_l72, mH_l73, mH_l74, mH_l75, mH_c, rk, eK]
          refine e_if (t := 99) (pc' := 95) hK rfl (by first | omega | exact bo_i _) (by decide) rfl (fun hb92 => ?_) (fun hb92 => ?_)
          · replace hb92 := cq_ne.1.mp hb92
            try simp only [bo_0, Bool.not_eq_false] at hb92
            refine e_step (pc' := 100) hK rfl rfl rfl ?_
            refine e_goto (t := 135) hK rfl (by decide) ?_
            refine e_step (pc' := 137) hK rfl rfl rfl ?_
            try simp only [List.set_cons_zero, List.set_cons_succ]
            refine e_step (pc' := 139) hK rfl rfl rfl ?_
            refine e_if (t := 144) (pc' := 142) hK rfl (by first | omega | exact bo_i _) (by decide) rfl (fun hb139 => ?_) (fun hb139 => ?_)
            · replace hb139 := cq_ne.1.mp hb139
              try simp only [bo_0, Bool.not_eq_false] at hb139
              exfalso; first | omega | exact absurd trivial (by assumption) | (first | omega | exact bo_i _)
            · replace hb139 := cq_ne.2.mp hb139
              try simp only [bo_0, Bool.not_eq_false] at hb139
              refine e_step (pc' := 143) hK rfl rfl rfl ?_
              refine e_ret hK rfl rfl (by first | rfl | (simp only [mv_ret]; rw [if_pos]; exact Or.inr ⟨rfl, by omega⟩) | (simp only [mv_ret]; rw [if_pos]; exact Or.inr ⟨rfl, by unfold mv_bo; split <;> first | exact Or.inl rfl | exact Or.inr rfl⟩)) ?_
              have em : mal A x (gL A g) t k = false := by { unfold mal; rw [if_neg (by omega), if_pos (by omega)]; exact decide_eq_false (by omega) }
              rw [gf_mal hI hg0 hg1 hg hn, la_f (q := fun p => mal A x (gL A g) t p) em (by omega)]
              exact ⟨rfl, rfl, rfl⟩
          · replace hb92 := cq_ne.2.mp hb92
            try simp only [bo_0, Bool.not_eq_false] at hb92
            refine e_step (pc' := 96) hK rfl rfl rfl ?_
            refine e_goto (t := 135) hK rfl (by decide) ?_
            refine e_step (pc' := 137) hK rfl rfl rfl ?_
            try simp only [List.set_cons_zero, List.set_cons_succ]
            refine e_step (pc' := 139) hK rfl rfl rfl ?_
            refine e_if (t := 144) (pc' := 142) hK rfl (by first | omega | exact bo_i _) (by decide) rfl (fun hb139 => ?_) (fun hb139 => ?_)
            · replace hb139 := cq_ne.1.mp hb139
              try simp only [bo_0, Bool.not_eq_false] at hb139
              refine e_step (pc' := 147) hK rfl rfl rfl ?_
              try simp only [List.set_cons_zero, List.set_cons_succ]
              refine e_goto (t := 38) hK rfl (by decide) ?_
              have em : mal A x (gL A g) t k = true := by { unfold mal; rw [if_neg (by omega), if_pos (by omega)]; exact decide_eq_true (by omega) }
              exact ih (k + 1) _ _ ⟨by omega, la_s hla em⟩
            · replace hb139 := cq_ne.2.mp hb139
              try simp only [bo_0, Bool.not_eq_false] at hb139
              exfalso; first | omega | exact absurd trivial (by assumption) | (first | omega | exact bo_i _)
      · replace hb57 := cq_ne.2.mp hb57
        try simp only [bo_0, Bool.not_eq_false] at hb57
        refine e_step (pc' := 61) hK rfl rfl rfl ?_
        refine e_getR (ci := 4) (k := 12) (pc' := 64) hK rfl (by simp (disch := omega) only [mH_t64, mH_r1, mH_r3, mH_r4, mH_r5, mH_r6, mH_r8, mH_r9, mH_r10, mH_r11, mH_r12, mH_r14, mH_i0, mH_i2, mH_i7, mH_i13, mH_i15, mH_t71, mH_t, mH_lr, mH_l65, mH_l69, mH_l70, mH_l71, mH_l72, mH_l73, mH_l74, mH_l75, mH_c, rk, eK]) rfl rfl (by decide) (by decide) (by (try simp (disch := omega) only [mH_t64, mH_r1, mH_r3, mH_r4, mH_r5, mH_r6, mH_r8, mH_r9, mH_r10, mH_r11, mH_r12, mH_r14, mH_i0, mH_i2, mH_i7, mH_i13, mH_i15, mH_t71, mH_t, mH_lr, mH_l65, mH_l69, mH_l70, mH_l71, mH_l72, mH_l73, mH_l74, mH_l75, mH_c, rk, eK]); first | omega | exact bo_i _) rfl ?_
        try simp (disch := omega) only [mH_t64, mH_r1, mH_r3, mH_r4, mH_r5, mH_r6, mH_r8, mH_r9, mH_r10, mH_r11, mH_r12, mH_r14, mH_i0, mH_i2, mH_i7, mH_i13, mH_i15, mH_t71, mH_t, mH_lr, mH_l65, mH_l69, mH_l70, mH_l71, mH_l72, mH_l73, mH_l74, mH_l75, mH_c, rk, eK]
        refine e_step (pc' := 66) hK rfl rfl rfl ?_
        refine e_iald (pc' := 67) hK rfl (by simp (disch := omega) only [mH_t64, mH_r1, mH_r3, mH_r4, mH_r5, mH_r6, mH_r8, mH_r9, mH_r10, mH_r11, mH_r12, mH_r14, mH_i0, mH_i2, mH_i7, mH_i13, mH_i15, mH_t71, mH_t, mH_lr, mH_l65, mH_l69, mH_l70, mH_l71, mH_l72, mH_l73, mH_l74, mH_l75, mH_c, rk, eK]) (by first | omega | exact bo_i _) (by (try simp (disch := omega) only [mH_t64, mH_r1, mH_r3, mH_r4, mH_r5, mH_r6, mH_r8, mH_r9, mH_r10, mH_r11, mH_r12, mH_r14, mH_i0, mH_i2, mH_i7, mH_i13, mH_i15, mH_t71, mH_t, mH_lr, mH_l65, mH_l69, mH_l70, mH_l71, mH_l72, mH_l73, mH_l74, mH_l75, mH_c, rk, eK]); first | omega | exact bo_i _) rfl ?_
        try simp (disch := omega) only [mH_t64, mH_r1, mH_r3, mH_r4, mH_r5, mH_r6, mH_r8, mH_r9, mH_r10, mH_r11, mH_r12, mH_r14, mH_i0, mH_i2, mH_i7, mH_i13, mH_i15, mH_t71, mH_t, mH_lr, mH_l65, mH_l69, mH_l70, mH_l71, mH_l72, mH_l73, mH_l74, mH_l75, mH_c, rk, eK]
        refine e_step (pc' := 68) hK rfl rfl rfl ?_
        refine e_icmp (t := 75) (pc' := 71) hK rfl (by first | omega | exact bo_i _) (by first | omega | exact bo_i _) (by decide) rfl (fun hb68 => ?_) (fun hb68 => ?_)
        · replace hb68 := cq_ne.1.mp hb68
          try simp only [bo_0, Bool.not_eq_false] at hb68
          refine e_step (pc' := 76) hK rfl rfl rfl ?_
          refine e_goto (t := 135) hK rfl (by decide) ?_
          refine e_step (pc' := 137) hK rfl rfl rfl ?_
          try simp only [List.set_cons_zero, List.set_cons_succ]
          refine e_step (pc' := 139) hK rfl rfl rfl ?_
          refine e_if (t := 144) (pc' := 142) hK rfl (by first | omega | exact bo_i _) (by decide) rfl (fun hb139 => ?_) (fun hb139 => ?_)
          · replace hb139 := cq_ne.1.mp hb139
            try simp only [bo_0, Bool.not_eq_false] at hb139
            exfalso; first | omega | exact absurd trivial (by assumption) | (first | omega | exact bo_i _)
          · replace hb139 := cq_ne.2.mp hb139
            try simp only [bo_0, Bool.not_eq_false] at hb139
            refine e_step (pc' := 143) hK rfl rfl rfl ?_
            refine e_ret hK rfl rfl (by first | rfl | (simp only [mv_ret]; rw [if_pos]; exact Or.inr ⟨rfl, by omega⟩) | (simp only [mv_ret]; rw [if_pos]; exact Or.inr ⟨rfl, by unfold mv_bo; split <;> first | exact Or.inl rfl | exact Or.inr rfl⟩)) ?_
            have em : mal A x (gL A g) t k = false := by { unfold mal; rw [if_pos (by omega)]; exact decide_eq_false (by omega) }
            rw [gf_mal hI hg0 hg1 hg hn, la_f (q := fun p => mal A x (gL A g) t p) em (by omega)]
            exact ⟨rfl, rfl, rfl⟩
        · replace hb68 := cq_ne.2.mp hb68
          try simp only [bo_0, Bool.not_eq_false] at hb68
          refine e_step (pc' := 72) hK rfl rfl rfl ?_
          refine e_goto (t := 135) hK rfl (by decide) ?_
          refine e_step (pc' := 137) hK rfl rfl rfl ?_
          try simp only [List.set_cons_zero, List.set_cons_succ]
          refine e_step (pc' := 139) hK rfl rfl rfl ?_
          refine e_if (t := 144) (pc' := 142) hK rfl (by first | omega | exact bo_i _) (by decide) rfl (fun hb139 => ?_) (fun hb139 => ?_)
          · replace hb139 := cq_ne.1.mp hb139
            try simp only [bo_0, Bool.not_eq_false] at hb139
            refine e_step (pc' := 147) hK rfl rfl rfl ?_
            try simp only [List.set_cons_zero, List.set_cons_succ]
            refine e_goto (t := 38) hK rfl (by decide) ?_
            have em : mal A x (gL A g) t k = true := by { unfold mal; rw [if_pos (by omega)]; exact decide_eq_true (by omega) }
            exact ih (k + 1) _ _ ⟨by omega, la_s hla em⟩
          · replace hb139 := cq_ne.2.mp hb139
            try simp only [bo_0, Bool.not_eq_false] at hb139
            exfalso; first | omega | exact absurd trivial (by assumption) | (first | omega | exact bo_i _)
end MF
