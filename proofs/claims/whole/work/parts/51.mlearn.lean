/-! the reference: learning, taking anew (written by wip/whole/m51.py) -/
section MO
variable {sc : Int × (Int → Int)} {c : mv_C} {h : mv_H} {v : mvt}
def mpr (A : lg) (t u : Int) : Int := if god A t u = -1 then xn (gs A t) else god A t u
theorem mpr_b {A : lg} (hI : gI A) {t u : Int} (h0 : 0 ≤ t) (h1 : t < gT A) : (mpr A t u = -9999 ↔ god A t u = -9999) ∧ (god A t u = -1 → mpr A t u = xn (gs A t)) ∧ (god A t u ≠ -9999 → god A t u ≠ -1 → mpr A t u = god A t u ∧ 0 ≤ god A t u ∧ god A t u < xn (gs A t)) ∧ -9999 ≤ mpr A t u ∧ mpr A t u ≤ 12 := by
  have hb := xn_b (gSok hI h0 h1)
  have hd : (god A t u = -9999 ∨ -1 ≤ god A t u) ∧ (god A t u = -9999 ∨ god A t u < xn (gs A t)) := by
    unfold god
    split
    · have := gdl_b (A := A) (t := t) (u := u) (xn (gs A t)).toNat; omega
    · exact ⟨Or.inl rfl, Or.inl rfl⟩
  unfold mpr
  split <;> omega
set_option maxRecDepth 20000 in
theorem m_parts1 (a : Int) (ha : 266 ≤ a ∧ a ≤ 268) {A : lg} (hR : Rw (v a) A) (hI : gI A) (t u : Int) (h0 : 0 ≤ t) (h1 : t < gT A) (h2 : 0 ≤ u) (h3 : u < gT A) (hn : xn (gs A t) = xn (gs A u)) (hx : ∀ p : Int, 0 ≤ p → p < xn (gs A t) → Pc v (v a) p (gfi A t) (gL A (gfi A t)) p) (hy : ∀ p : Int, 0 ≤ p → p < xn (gs A t) → Pc v (v a) (12 + p) (gfi A u) (gL A (gfi A u)) p) : ∀ (m : Nat) (k : Nat) (P9 : Int) (a7 a8 a9 a10 : mv_V), (k + m = (xn (gs A t)).toNat ∧ gdl A t u k ≠ -9999 ∧ ((gdl A t u k = -1 ∧ P9 = xn (gs A t)) ∨ (0 ≤ gdl A t u k ∧ P9 = gdl A t u k))) → mv_Ev sc 162 55 [(2, 264), (2, a), (0, t), (0, u), (0, xn (gs A t)), (0, P9), (0, (k : Int)), a7, a8, a9, a10] [] c (mH h v) (mv_Rd (0, mpr A t u) c (mH h v)) := by
  intro m
  induction m with
  | zero =>
    intro k P9 a7 a8 a9 a10 ⟨hk, hd, hP⟩
    have b1 := hI.1
    have b2 := hI.2.1
    have r0 := hR.1
    have r1 := hR.2.1
    have b3 := xn_b (gSok hI h0 h1)
    have b4 := xn_b (gSok hI h2 h3)
    have hdb := gdl_b (A := A) (t := t) (u := u) k
    have hK : (mv_m 162).1 = kc_Mod_partsAt := rfl
    refine e_step (pc' := 57) hK rfl rfl rfl ?_
    refine e_step (pc' := 59) hK rfl rfl rfl ?_
    refine e_icmp (t := 185) (pc' := 62) hK rfl (by first | omega | exact bo_i _) (by first | omega | exact bo_i _) (by decide) rfl (fun hb59 => ?_) (fun hb59 => ?_)
    · replace hb59 := cq_ge.1.mp hb59
      try simp only [bo_0, Bool.not_eq_false] at hb59
      refine e_step (pc' := 187) hK rfl rfl rfl ?_
      refine e_ret hK rfl rfl rfl ?_
      have e : (xn (gs A t)).toNat = k := by omega
      have eg : god A t u = gdl A t u k := by { unfold god; rw [if_pos hn, e] }
      refine ⟨?_, rfl, rfl⟩
      congr 1
      unfold mpr
      rw [eg]
      split <;> omega
    · replace hb59 := cq_ge.2.mp hb59
      try simp only [bo_0, Bool.not_eq_false] at hb59
      exfalso; first | omega | exact absurd trivial (by assumption) | (first | omega | exact bo_i _)
  | succ m ih =>
    intro k P9 a7 a8 a9 a10 ⟨hk, hd, hP⟩
    have b1 := hI.1
    have b2 := hI.2.1
    have r0 := hR.1
    have r1 := hR.2.1
    have b3 := xn_b (gSok hI h0 h1)
    have b4 := xn_b (gSok hI h2 h3)
    have hdb := gdl_b (A := A) (t := t) (u := u) k
    have hK : (mv_m 162).1 = kc_Mod_partsAt := rfl
    refine e_step (pc' := 57) hK rfl rfl rfl ?_
    refine e_step (pc' := 59) hK rfl rfl rfl ?_
    refine e_icmp (t := 185) (pc' := 62) hK rfl (by first | omega | exact bo_i _) (by first | omega | exact bo_i _) (by decide) rfl (fun hb59 => ?_) (fun hb59 => ?_)
    · replace hb59 := cq_ge.1.mp hb59
      try simp only [bo_0, Bool.not_eq_false] at hb59
      exfalso; first | omega | exact absurd trivial (by assumption) | (first | omega | exact bo_i _)
    · replace hb59 := cq_ge.2.mp hb59
      try simp only [bo_0, Bool.not_eq_false] at hb59
      have rk1 := (hR.2.2.2 t h0 h1).2 k (by omega) (by rw [← gs_S h0 h1]; omega)
      have rk2 := (hR.2.2.2 u h2 h3).2 k (by omega) (by rw [← gs_S h2 h3]; omega)
      have kb1 := gk_i hI h0 h1 (show (0 : Int) ≤ k by omega) (by omega)
      have kb2 := gk_i hI h2 h3 (show (0 : Int) ≤ k by omega) (by omega)
      have kw1 := gk_w (p := (k : Int)) hI h0 h1
      have kw2 := gk_w (p := (k : Int)) hI h2 h3
      have hgm := gal_m (p := (k : Int)) hI h0 h1 h2 h3 (by omega) (by omega) (by omega)
      have hgs := gdl_s hd
      refine e_step (pc' := 63) hK rfl rfl rfl ?_
      refine e_step (pc' := 64) hK rfl rfl rfl ?_
      refine e_step (pc' := 66) hK rfl rfl rfl ?_
      refine e_cRS3 (z := 120) (pc' := 69) hK rfl rfl rfl (Nat.le_of_ble_eq_true rfl) (Nat.le_of_ble_eq_true rfl) (m_kindOf a ha t (k : Int) (by omega) (by omega)) (by decide) rfl ?_
      try simp (disch := omega) only [mH_t64, mH_r1, mH_r3, mH_r4, mH_r5, mH_r6, mH_r8, mH_r9, mH_r10, mH_r11, mH_r12, mH_r14, mH_i0, mH_i2, mH_i7, mH_i13, mH_i15, mH_t71, mH_t, mH_lr, mH_l65, mH_l69, mH_l70, mH_l71, mH_l72, mH_l73, mH_l74, mH_l75, mH_c, rk1, rk2]
      refine e_step (pc' := 71) hK rfl rfl rfl ?_
      try simp only [List.set_cons_zero, List.set_cons_succ]
      refine e_step (pc' := 72) hK rfl rfl rfl ?_
      refine e_step (pc' := 73) hK rfl rfl rfl ?_
      refine e_step (pc' := 75) hK rfl rfl rfl ?_
      refine e_cRS3 (z := 120) (pc' := 78) hK rfl rfl rfl (Nat.le_of_ble_eq_true rfl) (Nat.le_of_ble_eq_true rfl) (m_kindOf a ha u (k : Int) (by omega) (by omega)) (by decide) rfl ?_
      try simp (disch := omega) only [mH_t64, mH_r1, mH_r3, mH_r4, mH_r5, mH_r6, mH_r8, mH_r9, mH_r10, mH_r11, mH_r12, mH_r14, mH_i0, mH_i2, mH_i7, mH_i13, mH_i15, mH_t71, mH_t, mH_lr, mH_l65, mH_l69, mH_l70, mH_l71, mH_l72, mH_l73, mH_l74, mH_l75, mH_c, rk1, rk2]
      refine e_step (pc' := 80) hK rfl rfl rfl ?_
      try simp only [List.set_cons_zero, List.set_cons_succ]
      refine e_step (pc' := 82) hK rfl rfl rfl ?_
      refine e_step (pc' := 84) hK rfl rfl rfl ?_
      refine e_icmp (t := 112) (pc' := 87) hK rfl (by first | omega | exact bo_i _) (by first | omega | exact bo_i _) (by decide) rfl (fun hb84 => ?_) (fun hb84 => ?_)
      · replace hb84 := cq_ne.1.mp hb84
        try simp only [bo_0, Bool.not_eq_false] at hb84
        refine e_step (pc' := 113) hK rfl rfl rfl ?_
        refine e_step (pc' := 115) hK rfl rfl rfl ?_
        try simp only [List.set_cons_zero, List.set_cons_succ]
        refine e_step (pc' := 117) hK rfl rfl rfl ?_
        refine e_if (t := 126) (pc' := 120) hK rfl (by first | omega | exact bo_i _) (by decide) rfl (fun hb117 => ?_) (fun hb117 => ?_)
        · replace hb117 := cq_eq.1.mp hb117
          try simp only [bo_0, Bool.not_eq_false] at hb117
          refine e_step (pc' := 128) hK rfl rfl rfl ?_
          refine e_if (t := 137) (pc' := 131) hK rfl (by first | omega | exact bo_i _) (by decide) rfl (fun hb128 => ?_) (fun hb128 => ?_)
          · replace hb128 := cq_eq.1.mp hb128
            try simp only [bo_0, Bool.not_eq_false] at hb128
            refine e_step (pc' := 138) hK rfl rfl rfl ?_
            refine e_goto (t := 142) hK rfl (by decide) ?_
            refine e_step (pc' := 144) hK rfl rfl rfl ?_
            try simp only [List.set_cons_zero, List.set_cons_succ]
            refine e_step (pc' := 146) hK rfl rfl rfl ?_
            refine e_if (t := 165) (pc' := 149) hK rfl (by first | omega | exact bo_i _) (by decide) rfl (fun hb146 => ?_) (fun hb146 => ?_)
            · replace hb146 := cq_ne.1.mp hb146
              try simp only [bo_0, Bool.not_eq_false] at hb146
              exfalso; first | omega | exact absurd trivial (by assumption) | (first | omega | exact bo_i _)
            · replace hb146 := cq_ne.2.mp hb146
              try simp only [bo_0, Bool.not_eq_false] at hb146
              refine e_step (pc' := 151) hK rfl rfl rfl ?_
              refine e_if (t := 161) (pc' := 154) hK rfl (by first | omega | exact bo_i _) (by decide) rfl (fun hb151 => ?_) (fun hb151 => ?_)
              · replace hb151 := cq_eq.1.mp hb151
                try simp only [bo_0, Bool.not_eq_false] at hb151
                exfalso; first | omega | exact absurd trivial (by assumption) | (first | omega | exact bo_i _)
              · replace hb151 := cq_eq.2.mp hb151
                try simp only [bo_0, Bool.not_eq_false] at hb151
                refine e_step (pc' := 156) hK rfl rfl rfl ?_
                refine e_step (pc' := 158) hK rfl rfl rfl ?_
                refine e_icmp (t := 165) (pc' := 161) hK rfl (by first | omega | exact bo_i _) (by first | omega | exact bo_i _) (by decide) rfl (fun hb158 => ?_) (fun hb158 => ?_)
                · replace hb158 := cq_ge.1.mp hb158
                  try simp only [bo_0, Bool.not_eq_false] at hb158
                  refine e_step (pc' := 167) hK rfl rfl rfl ?_
                  refine e_if (t := 175) (pc' := 170) hK rfl (by first | omega | exact bo_i _) (by decide) rfl (fun hb167 => ?_) (fun hb167 => ?_)
                  · replace hb167 := cq_eq.1.mp hb167
                    try simp only [bo_0, Bool.not_eq_false] at hb167
                    refine e_step (pc' := 177) hK rfl rfl rfl ?_
                    refine e_step (pc' := 179) hK rfl rfl rfl ?_
                    try simp only [List.set_cons_zero, List.set_cons_succ]
                    refine e_step (pc' := 182) hK rfl rfl rfl ?_
                    try simp only [List.set_cons_zero, List.set_cons_succ]
                    refine e_goto (t := 55) hK rfl (by decide) ?_
                    have hg : gal A t u k = false := by { rw [hgm, decide_eq_false hb84]; rfl }
                    rw [if_neg (by rw [hg]; decide), if_neg (by omega)] at hgs
                    exact ih (k + 1) k _ _ _ _ ⟨by omega, by rw [hgs]; omega, by rw [hgs]; omega⟩
                  · replace hb167 := cq_eq.2.mp hb167
                    try simp only [bo_0, Bool.not_eq_false] at hb167
                    exfalso; first | omega | exact absurd trivial (by assumption) | (first | omega | exact bo_i _)
                · replace hb158 := cq_ge.2.mp hb158
                  try simp only [bo_0, Bool.not_eq_false] at hb158
                  refine e_step (pc' := 164) hK rfl rfl rfl ?_
                  refine e_ret hK rfl rfl rfl ?_
                  have hg : gal A t u k = false := by { rw [hgm, decide_eq_false hb84]; rfl }
                  rw [if_neg (by rw [hg]; decide), if_pos (by omega)] at hgs
                  have e9 := gdl_stop hgs (xn (gs A t)).toNat (by omega)
                  have eg : god A t u = -9999 := by { unfold god; rw [if_pos hn, e9] }
                  refine ⟨?_, rfl, rfl⟩
                  congr 1
                  unfold mpr
                  rw [eg]
                  rfl
          · replace hb128 := cq_eq.2.mp hb128
            try simp only [bo_0, Bool.not_eq_false] at hb128
            refine e_step (pc' := 133) hK rfl rfl rfl ?_
            refine e_step (pc' := 134) hK rfl rfl rfl ?_
            refine e_icmp (t := 141) (pc' := 137) hK rfl (by first | omega | exact bo_i _) (by first | omega | exact bo_i _) (by decide) rfl (fun hb134 => ?_) (fun hb134 => ?_)
            · replace hb134 := cq_ne.1.mp hb134
              try simp only [bo_0, Bool.not_eq_false] at hb134
              refine e_step (pc' := 142) hK rfl rfl rfl ?_
              refine e_step (pc' := 144) hK rfl rfl rfl ?_
              try simp only [List.set_cons_zero, List.set_cons_succ]
              refine e_step (pc' := 146) hK rfl rfl rfl ?_
              refine e_if (t := 165) (pc' := 149) hK rfl (by first | omega | exact bo_i _) (by decide) rfl (fun hb146 => ?_) (fun hb146 => ?_)
              · replace hb146 := cq_ne.1.mp hb146
                try simp only [bo_0, Bool.not_eq_false] at hb146
                exfalso; first | omega | exact absurd trivial (by assumption) | (first | omega | exact bo_i _)
              · replace hb146 := cq_ne.2.mp hb146
                try simp only [bo_0, Bool.not_eq_false] at hb146
                refine e_step (pc' := 151) hK rfl rfl rfl ?_
                refine e_if (t := 161) (pc' := 154) hK rfl (by first | omega | exact bo_i _) (by decide) rfl (fun hb151 => ?_) (fun hb151 => ?_)
                · replace hb151 := cq_eq.1.mp hb151
                  try simp only [bo_0, Bool.not_eq_false] at hb151
                  refine e_step (pc' := 164) hK rfl rfl rfl ?_
                  refine e_ret hK rfl rfl rfl ?_
                  have hg : gal A t u k = false := by { rw [hgm, decide_eq_false hb84]; rfl }
                  rw [if_neg (by rw [hg]; decide), if_pos (by omega)] at hgs
                  have e9 := gdl_stop hgs (xn (gs A t)).toNat (by omega)
                  have eg : god A t u = -9999 := by { unfold god; rw [if_pos hn, e9] }
                  refine ⟨?_, rfl, rfl⟩
                  congr 1
                  unfold mpr
                  rw [eg]
                  rfl
                · replace hb151 := cq_eq.2.mp hb151
                  try simp only [bo_0, Bool.not_eq_false] at hb151
                  exfalso; first | omega | exact absurd trivial (by assumption) | (first | omega | exact bo_i _)
            · replace hb134 := cq_ne.2.mp hb134
              try simp only [bo_0, Bool.not_eq_false] at hb134
              refine e_step (pc' := 138) hK rfl rfl rfl ?_
              refine e_goto (t := 142) hK rfl (by decide) ?_
              refine e_step (pc' := 144) hK rfl rfl rfl ?_
              try simp only [List.set_cons_zero, List.set_cons_succ]
              refine e_step (pc' := 146) hK rfl rfl rfl ?_
              refine e_if (t := 165) (pc' := 149) hK rfl (by first | omega | exact bo_i _) (by decide) rfl (fun hb146 => ?_) (fun hb146 => ?_)
              · replace hb146 := cq_ne.1.mp hb146
                try simp only [bo_0, Bool.not_eq_false] at hb146
                exfalso; first | omega | exact absurd trivial (by assumption) | (first | omega | exact bo_i _)
              · replace hb146 := cq_ne.2.mp hb146
                try simp only [bo_0, Bool.not_eq_false] at hb146
                refine e_step (pc' := 151) hK rfl rfl rfl ?_
                refine e_if (t := 161) (pc' := 154) hK rfl (by first | omega | exact bo_i _) (by decide) rfl (fun hb151 => ?_) (fun hb151 => ?_)
                · replace hb151 := cq_eq.1.mp hb151
                  try simp only [bo_0, Bool.not_eq_false] at hb151
                  exfalso; first | omega | exact absurd trivial (by assumption) | (first | omega | exact bo_i _)
                · replace hb151 := cq_eq.2.mp hb151
                  try simp only [bo_0, Bool.not_eq_false] at hb151
                  refine e_step (pc' := 156) hK rfl rfl rfl ?_
                  refine e_step (pc' := 158) hK rfl rfl rfl ?_
                  refine e_icmp (t := 165) (pc' := 161) hK rfl (by first | omega | exact bo_i _) (by first | omega | exact bo_i _) (by decide) rfl (fun hb158 => ?_) (fun hb158 => ?_)
                  · replace hb158 := cq_ge.1.mp hb158
                    try simp only [bo_0, Bool.not_eq_false] at hb158
                    refine e_step (pc' := 167) hK rfl rfl rfl ?_
                    refine e_if (t := 175) (pc' := 170) hK rfl (by first | omega | exact bo_i _) (by decide) rfl (fun hb167 => ?_) (fun hb167 => ?_)
                    · replace hb167 := cq_eq.1.mp hb167
                      try simp only [bo_0, Bool.not_eq_false] at hb167
                      refine e_step (pc' := 177) hK rfl rfl rfl ?_
                      refine e_step (pc' := 179) hK rfl rfl rfl ?_
                      try simp only [List.set_cons_zero, List.set_cons_succ]
                      refine e_step (pc' := 182) hK rfl rfl rfl ?_
                      try simp only [List.set_cons_zero, List.set_cons_succ]
                      refine e_goto (t := 55) hK rfl (by decide) ?_
                      have hg : gal A t u k = false := by { rw [hgm, decide_eq_false hb84]; rfl }
                      rw [if_neg (by rw [hg]; decide), if_neg (by omega)] at hgs
                      exact ih (k + 1) k _ _ _ _ ⟨by omega, by rw [hgs]; omega, by rw [hgs]; omega⟩
                    · replace hb167 := cq_eq.2.mp hb167
                      try simp only [bo_0, Bool.not_eq_false] at hb167
                      exfalso; first | omega | exact absurd trivial (by assumption) | (first | omega | exact bo_i _)
                  · replace hb158 := cq_ge.2.mp hb158
                    try simp only [bo_0, Bool.not_eq_false] at hb158
                    refine e_step (pc' := 164) hK rfl rfl rfl ?_
                    refine e_ret hK rfl rfl rfl ?_
                    have hg : gal A t u k = false := by { rw [hgm, decide_eq_false hb84]; rfl }
                    rw [if_neg (by rw [hg]; decide), if_pos (by omega)] at hgs
                    have e9 := gdl_stop hgs (xn (gs A t)).toNat (by omega)
                    have eg : god A t u = -9999 := by { unfold god; rw [if_pos hn, e9] }
                    refine ⟨?_, rfl, rfl⟩
                    congr 1
                    unfold mpr
                    rw [eg]
                    rfl
        · replace hb117 := cq_eq.2.mp hb117
          try simp only [bo_0, Bool.not_eq_false] at hb117
          refine e_step (pc' := 122) hK rfl rfl rfl ?_
          refine e_step (pc' := 123) hK rfl rfl rfl ?_
          refine e_icmp (t := 141) (pc' := 126) hK rfl (by first | omega | exact bo_i _) (by first | omega | exact bo_i _) (by decide) rfl (fun hb123 => ?_) (fun hb123 => ?_)
          · replace hb123 := cq_ne.1.mp hb123
            try simp only [bo_0, Bool.not_eq_false] at hb123
            refine e_step (pc' := 142) hK rfl rfl rfl ?_
            refine e_step (pc' := 144) hK rfl rfl rfl ?_
            try simp only [List.set_cons_zero, List.set_cons_succ]
            refine e_step (pc' := 146) hK rfl rfl rfl ?_
            refine e_if (t := 165) (pc' := 149) hK rfl (by first | omega | exact bo_i _) (by decide) rfl (fun hb146 => ?_) (fun hb146 => ?_)
            · replace hb146 := cq_ne.1.mp hb146
              try simp only [bo_0, Bool.not_eq_false] at hb146
              exfalso; first | omega | exact absurd trivial (by assumption) | (first | omega | exact bo_i _)
            · replace hb146 := cq_ne.2.mp hb146
              try simp only [bo_0, Bool.not_eq_false] at hb146
              refine e_step (pc' := 151) hK rfl rfl rfl ?_
              refine e_if (t := 161) (pc' := 154) hK rfl (by first | omega | exact bo_i _) (by decide) rfl (fun hb151 => ?_) (fun hb151 => ?_)
              · replace hb151 := cq_eq.1.mp hb151
                try simp only [bo_0, Bool.not_eq_false] at hb151
                refine e_step (pc' := 164) hK rfl rfl rfl ?_
                refine e_ret hK rfl rfl rfl ?_
                have hg : gal A t u k = false := by { rw [hgm, decide_eq_false hb84]; rfl }
                rw [if_neg (by rw [hg]; decide), if_pos (by omega)] at hgs
                have e9 := gdl_stop hgs (xn (gs A t)).toNat (by omega)
                have eg : god A t u = -9999 := by { unfold god; rw [if_pos hn, e9] }
                refine ⟨?_, rfl, rfl⟩
                congr 1
                unfold mpr
                rw [eg]
                rfl
              · replace hb151 := cq_eq.2.mp hb151
                try simp only [bo_0, Bool.not_eq_false] at hb151
                exfalso; first | omega | exact absurd trivial (by assumption) | (first | omega | exact bo_i _)
          · replace hb123 := cq_ne.2.mp hb123
            try simp only [bo_0, Bool.not_eq_false] at hb123
            refine e_step (pc' := 128) hK rfl rfl rfl ?_
            refine e_if (t := 137) (pc' := 131) hK rfl (by first | omega | exact bo_i _) (by decide) rfl (fun hb128 => ?_) (fun hb128 => ?_)
            · replace hb128 := cq_eq.1.mp hb128
              try simp only [bo_0, Bool.not_eq_false] at hb128
              refine e_step (pc' := 138) hK rfl rfl rfl ?_
              refine e_goto (t := 142) hK rfl (by decide) ?_
              refine e_step (pc' := 144) hK rfl rfl rfl ?_
              try simp only [List.set_cons_zero, List.set_cons_succ]
              refine e_step (pc' := 146) hK rfl rfl rfl ?_
              refine e_if (t := 165) (pc' := 149) hK rfl (by first | omega | exact bo_i _) (by decide) rfl (fun hb146 => ?_) (fun hb146 => ?_)
              · replace hb146 := cq_ne.1.mp hb146
                try simp only [bo_0, Bool.not_eq_false] at hb146
                exfalso; first | omega | exact absurd trivial (by assumption) | (first | omega | exact bo_i _)
              · replace hb146 := cq_ne.2.mp hb146
                try simp only [bo_0, Bool.not_eq_false] at hb146
                refine e_step (pc' := 151) hK rfl rfl rfl ?_
                refine e_if (t := 161) (pc' := 154) hK rfl (by first | omega | exact bo_i _) (by decide) rfl (fun hb151 => ?_) (fun hb151 => ?_)
                · replace hb151 := cq_eq.1.mp hb151
                  try simp only [bo_0, Bool.not_eq_false] at hb151
                  exfalso; first | omega | exact absurd trivial (by assumption) | (first | omega | exact bo_i _)
                · replace hb151 := cq_eq.2.mp hb151
                  try simp only [bo_0, Bool.not_eq_false] at hb151
                  refine e_step (pc' := 156) hK rfl rfl rfl ?_
                  refine e_step (pc' := 158) hK rfl rfl rfl ?_
                  refine e_icmp (t := 165) (pc' := 161) hK rfl (by first | omega | exact bo_i _) (by first | omega | exact bo_i _) (by decide) rfl (fun hb158 => ?_) (fun hb158 => ?_)
                  · replace hb158 := cq_ge.1.mp hb158
                    try simp only [bo_0, Bool.not_eq_false] at hb158
                    refine e_step (pc' := 167) hK rfl rfl rfl ?_
                    refine e_if (t := 175) (pc' := 170) hK rfl (by first | omega | exact bo_i _) (by decide) rfl (fun hb167 => ?_) (fun hb167 => ?_)
                    · replace hb167 := cq_eq.1.mp hb167
                      try simp only [bo_0, Bool.not_eq_false] at hb167
                      refine e_step (pc' := 177) hK rfl rfl rfl ?_
                      refine e_step (pc' := 179) hK rfl rfl rfl ?_
                      try simp only [List.set_cons_zero, List.set_cons_succ]
                      refine e_step (pc' := 182) hK rfl rfl rfl ?_
                      try simp only [List.set_cons_zero, List.set_cons_succ]
                      refine e_goto (t := 55) hK rfl (by decide) ?_
                      have hg : gal A t u k = false := by { rw [hgm, decide_eq_false hb84]; rfl }
                      rw [if_neg (by rw [hg]; decide), if_neg (by omega)] at hgs
                      exact ih (k + 1) k _ _ _ _ ⟨by omega, by rw [hgs]; omega, by rw [hgs]; omega⟩
                    · replace hb167 := cq_eq.2.mp hb167
                      try simp only [bo_0, Bool.not_eq_false] at hb167
                      exfalso; first | omega | exact absurd trivial (by assumption) | (first | omega | exact bo_i _)
                  · replace hb158 := cq_ge.2.mp hb158
                    try simp only [bo_0, Bool.not_eq_false] at hb158
                    refine e_step (pc' := 164) hK rfl rfl rfl ?_
                    refine e_ret hK rfl rfl rfl ?_
                    have hg : gal A t u k = false := by { rw [hgm, decide_eq_false hb84]; rfl }
                    rw [if_neg (by rw [hg]; decide), if_pos (by omega)] at hgs
                    have e9 := gdl_stop hgs (xn (gs A t)).toNat (by omega)
                    have eg : god A t u = -9999 := by { unfold god; rw [if_pos hn, e9] }
                    refine ⟨?_, rfl, rfl⟩
                    congr 1
                    unfold mpr
                    rw [eg]
                    rfl
            · replace hb128 := cq_eq.2.mp hb128
              try simp only [bo_0, Bool.not_eq_false] at hb128
              refine e_step (pc' := 133) hK rfl rfl rfl ?_
              refine e_step (pc' := 134) hK rfl rfl rfl ?_
              refine e_icmp (t := 141) (pc' := 137) hK rfl (by first | omega | exact bo_i _) (by first | omega | exact bo_i _) (by decide) rfl (fun hb134 => ?_) (fun hb134 => ?_)
              · replace hb134 := cq_ne.1.mp hb134
                try simp only [bo_0, Bool.not_eq_false] at hb134
                refine e_step (pc' := 142) hK rfl rfl rfl ?_
                refine e_step (pc' := 144) hK rfl rfl rfl ?_
                try simp only [List.set_cons_zero, List.set_cons_succ]
                refine e_step (pc' := 146) hK rfl rfl rfl ?_
                refine e_if (t := 165) (pc' := 149) hK rfl (by first | omega | exact bo_i _) (by decide) rfl (fun hb146 => ?_) (fun hb146 => ?_)
                · replace hb146 := cq_ne.1.mp hb146
                  try simp only [bo_0, Bool.not_eq_false] at hb146
                  exfalso; first | omega | exact absurd trivial (by assumption) | (first | omega | exact bo_i _)
                · replace hb146 := cq_ne.2.mp hb146
                  try simp only [bo_0, Bool.not_eq_false] at hb146
                  refine e_step (pc' := 151) hK rfl rfl rfl ?_
                  refine e_if (t := 161) (pc' := 154) hK rfl (by first | omega | exact bo_i _) (by decide) rfl (fun hb151 => ?_) (fun hb151 => ?_)
                  · replace hb151 := cq_eq.1.mp hb151
                    try simp only [bo_0, Bool.not_eq_false] at hb151
                    refine e_step (pc' := 164) hK rfl rfl rfl ?_
                    refine e_ret hK rfl rfl rfl ?_
                    have hg : gal A t u k = false := by { rw [hgm, decide_eq_false hb84]; rfl }
                    rw [if_neg (by rw [hg]; decide), if_pos (by omega)] at hgs
                    have e9 := gdl_stop hgs (xn (gs A t)).toNat (by omega)
                    have eg : god A t u = -9999 := by { unfold god; rw [if_pos hn, e9] }
                    refine ⟨?_, rfl, rfl⟩
                    congr 1
                    unfold mpr
                    rw [eg]
                    rfl
                  · replace hb151 := cq_eq.2.mp hb151
                    try simp only [bo_0, Bool.not_eq_false] at hb151
                    exfalso; first | omega | exact absurd trivial (by assumption) | (first | omega | exact bo_i _)
              · replace hb134 := cq_ne.2.mp hb134
                try simp only [bo_0, Bool.not_eq_false] at hb134
                refine e_step (pc' := 138) hK rfl rfl rfl ?_
                refine e_goto (t := 142) hK rfl (by decide) ?_
                refine e_step (pc' := 144) hK rfl rfl rfl ?_
                try simp only [List.set_cons_zero, List.set_cons_succ]
                refine e_step (pc' := 146) hK rfl rfl rfl ?_
                refine e_if (t := 165) (pc' := 149) hK rfl (by first | omega | exact bo_i _) (by decide) rfl (fun hb146 => ?_) (fun hb146 => ?_)
                · replace hb146 := cq_ne.1.mp hb146
                  try simp only [bo_0, Bool.not_eq_false] at hb146
                  exfalso; first | omega | exact absurd trivial (by assumption) | (first | omega | exact bo_i _)
                · replace hb146 := cq_ne.2.mp hb146
                  try simp only [bo_0, Bool.not_eq_false] at hb146
                  refine e_step (pc' := 151) hK rfl rfl rfl ?_
                  refine e_if (t := 161) (pc' := 154) hK rfl (by first | omega | exact bo_i _) (by decide) rfl (fun hb151 => ?_) (fun hb151 => ?_)
                  · replace hb151 := cq_eq.1.mp hb151
                    try simp only [bo_0, Bool.not_eq_false] at hb151
                    exfalso; first | omega | exact absurd trivial (by assumption) | (first | omega | exact bo_i _)
                  · replace hb151 := cq_eq.2.mp hb151
                    try simp only [bo_0, Bool.not_eq_false] at hb151
                    refine e_step (pc' := 156) hK rfl rfl rfl ?_
                    refine e_step (pc' := 158) hK rfl rfl rfl ?_
                    refine e_icmp (t := 165) (pc' := 161) hK rfl (by first | omega | exact bo_i _) (by first | omega | exact bo_i _) (by decide) rfl (fun hb158 => ?_) (fun hb158 => ?_)
                    · replace hb158 := cq_ge.1.mp hb158
                      try simp only [bo_0, Bool.not_eq_false] at hb158
                      refine e_step (pc' := 167) hK rfl rfl rfl ?_
                      refine e_if (t := 175) (pc' := 170) hK rfl (by first | omega | exact bo_i _) (by decide) rfl (fun hb167 => ?_) (fun hb167 => ?_)
                      · replace hb167 := cq_eq.1.mp hb167
                        try simp only [bo_0, Bool.not_eq_false] at hb167
                        refine e_step (pc' := 177) hK rfl rfl rfl ?_
                        refine e_step (pc' := 179) hK rfl rfl rfl ?_
                        try simp only [List.set_cons_zero, List.set_cons_succ]
                        refine e_step (pc' := 182) hK rfl rfl rfl ?_
                        try simp only [List.set_cons_zero, List.set_cons_succ]
                        refine e_goto (t := 55) hK rfl (by decide) ?_
                        have hg : gal A t u k = false := by { rw [hgm, decide_eq_false hb84]; rfl }
                        rw [if_neg (by rw [hg]; decide), if_neg (by omega)] at hgs
                        exact ih (k + 1) k _ _ _ _ ⟨by omega, by rw [hgs]; omega, by rw [hgs]; omega⟩
                      · replace hb167 := cq_eq.2.mp hb167
                        try simp only [bo_0, Bool.not_eq_false] at hb167
                        exfalso; first | omega | exact absurd trivial (by assumption) | (first | omega | exact bo_i _)
                    · replace hb158 := cq_ge.2.mp hb158
                      try simp only [bo_0, Bool.not_eq_false] at hb158
                      refine e_step (pc' := 164) hK rfl rfl rfl ?_
                      refine e_ret hK rfl rfl rfl ?_
                      have hg : gal A t u k = false := by { rw [hgm, decide_eq_false hb84]; rfl }
                      rw [if_neg (by rw [hg]; decide), if_pos (by omega)] at hgs
                      have e9 := gdl_stop hgs (xn (gs A t)).toNat (by omega)
                      have eg : god A t u = -9999 := by { unfold god; rw [if_pos hn, e9] }
                      refine ⟨?_, rfl, rfl⟩
                      congr 1
                      unfold mpr
                      rw [eg]
                      rfl
      · replace hb84 := cq_ne.2.mp hb84
        try simp only [bo_0, Bool.not_eq_false] at hb84
        refine e_step (pc' := 89) hK rfl rfl rfl ?_
        refine e_step (pc' := 90) hK rfl rfl rfl ?_
        refine e_icmp (t := 108) (pc' := 93) hK rfl (by first | omega | exact bo_i _) (by first | omega | exact bo_i _) (by decide) rfl (fun hb90 => ?_) (fun hb90 => ?_)
        · replace hb90 := cq_ge.1.mp hb90
          try simp only [bo_0, Bool.not_eq_false] at hb90
          refine e_step (pc' := 109) hK rfl rfl rfl ?_
          refine e_goto (t := 113) hK rfl (by decide) ?_
          refine e_step (pc' := 115) hK rfl rfl rfl ?_
          try simp only [List.set_cons_zero, List.set_cons_succ]
          refine e_step (pc' := 117) hK rfl rfl rfl ?_
          refine e_if (t := 126) (pc' := 120) hK rfl (by first | omega | exact bo_i _) (by decide) rfl (fun hb117 => ?_) (fun hb117 => ?_)
          · replace hb117 := cq_eq.1.mp hb117
            try simp only [bo_0, Bool.not_eq_false] at hb117
            refine e_step (pc' := 128) hK rfl rfl rfl ?_
            refine e_if (t := 137) (pc' := 131) hK rfl (by first | omega | exact bo_i _) (by decide) rfl (fun hb128 => ?_) (fun hb128 => ?_)
            · replace hb128 := cq_eq.1.mp hb128
              try simp only [bo_0, Bool.not_eq_false] at hb128
              refine e_step (pc' := 138) hK rfl rfl rfl ?_
              refine e_goto (t := 142) hK rfl (by decide) ?_
              refine e_step (pc' := 144) hK rfl rfl rfl ?_
              try simp only [List.set_cons_zero, List.set_cons_succ]
              refine e_step (pc' := 146) hK rfl rfl rfl ?_
              refine e_if (t := 165) (pc' := 149) hK rfl (by first | omega | exact bo_i _) (by decide) rfl (fun hb146 => ?_) (fun hb146 => ?_)
              · replace hb146 := cq_ne.1.mp hb146
                try simp only [bo_0, Bool.not_eq_false] at hb146
                refine e_step (pc' := 167) hK rfl rfl rfl ?_
                refine e_if (t := 175) (pc' := 170) hK rfl (by first | omega | exact bo_i _) (by decide) rfl (fun hb167 => ?_) (fun hb167 => ?_)
                · replace hb167 := cq_eq.1.mp hb167
                  try simp only [bo_0, Bool.not_eq_false] at hb167
                  exfalso; first | omega | exact absurd trivial (by assumption) | (first | omega | exact bo_i _)
                · replace hb167 := cq_eq.2.mp hb167
                  try simp only [bo_0, Bool.not_eq_false] at hb167
                  refine e_step (pc' := 172) hK rfl rfl rfl ?_
                  refine e_goto (t := 177) hK rfl (by decide) ?_
                  refine e_step (pc' := 179) hK rfl rfl rfl ?_
                  try simp only [List.set_cons_zero, List.set_cons_succ]
                  refine e_step (pc' := 182) hK rfl rfl rfl ?_
                  try simp only [List.set_cons_zero, List.set_cons_succ]
                  refine e_goto (t := 55) hK rfl (by decide) ?_
                  have hg : gal A t u k = true := by { rw [hgm, decide_eq_true hb84, decide_eq_true hb90]; rfl }
                  rw [if_pos hg] at hgs
                  exact ih (k + 1) P9 _ _ _ _ ⟨by omega, by rw [hgs]; exact hd, by rw [hgs]; omega⟩
              · replace hb146 := cq_ne.2.mp hb146
                try simp only [bo_0, Bool.not_eq_false] at hb146
                exfalso; first | omega | exact absurd trivial (by assumption) | (first | omega | exact bo_i _)
            · replace hb128 := cq_eq.2.mp hb128
              try simp only [bo_0, Bool.not_eq_false] at hb128
              refine e_step (pc' := 133) hK rfl rfl rfl ?_
              refine e_step (pc' := 134) hK rfl rfl rfl ?_
              refine e_icmp (t := 141) (pc' := 137) hK rfl (by first | omega | exact bo_i _) (by first | omega | exact bo_i _) (by decide) rfl (fun hb134 => ?_) (fun hb134 => ?_)
              · replace hb134 := cq_ne.1.mp hb134
                try simp only [bo_0, Bool.not_eq_false] at hb134
                refine e_step (pc' := 142) hK rfl rfl rfl ?_
                refine e_step (pc' := 144) hK rfl rfl rfl ?_
                try simp only [List.set_cons_zero, List.set_cons_succ]
                refine e_step (pc' := 146) hK rfl rfl rfl ?_
                refine e_if (t := 165) (pc' := 149) hK rfl (by first | omega | exact bo_i _) (by decide) rfl (fun hb146 => ?_) (fun hb146 => ?_)
                · replace hb146 := cq_ne.1.mp hb146
                  try simp only [bo_0, Bool.not_eq_false] at hb146
                  refine e_step (pc' := 167) hK rfl rfl rfl ?_
                  refine e_if (t := 175) (pc' := 170) hK rfl (by first | omega | exact bo_i _) (by decide) rfl (fun hb167 => ?_) (fun hb167 => ?_)
                  · replace hb167 := cq_eq.1.mp hb167
                    try simp only [bo_0, Bool.not_eq_false] at hb167
                    exfalso; first | omega | exact absurd trivial (by assumption) | (first | omega | exact bo_i _)
                  · replace hb167 := cq_eq.2.mp hb167
                    try simp only [bo_0, Bool.not_eq_false] at hb167
                    refine e_step (pc' := 172) hK rfl rfl rfl ?_
                    refine e_goto (t := 177) hK rfl (by decide) ?_
                    refine e_step (pc' := 179) hK rfl rfl rfl ?_
                    try simp only [List.set_cons_zero, List.set_cons_succ]
                    refine e_step (pc' := 182) hK rfl rfl rfl ?_
                    try simp only [List.set_cons_zero, List.set_cons_succ]
                    refine e_goto (t := 55) hK rfl (by decide) ?_
                    have hg : gal A t u k = true := by { rw [hgm, decide_eq_true hb84, decide_eq_true hb90]; rfl }
                    rw [if_pos hg] at hgs
                    exact ih (k + 1) P9 _ _ _ _ ⟨by omega, by rw [hgs]; exact hd, by rw [hgs]; omega⟩
                · replace hb146 := cq_ne.2.mp hb146
                  try simp only [bo_0, Bool.not_eq_false] at hb146
                  exfalso; first | omega | exact absurd trivial (by assumption) | (first | omega | exact bo_i _)
              · replace hb134 := cq_ne.2.mp hb134
                try simp only [bo_0, Bool.not_eq_false] at hb134
                refine e_step (pc' := 138) hK rfl rfl rfl ?_
                refine e_goto (t := 142) hK rfl (by decide) ?_
                refine e_step (pc' := 144) hK rfl rfl rfl ?_
                try simp only [List.set_cons_zero, List.set_cons_succ]
                refine e_step (pc' := 146) hK rfl rfl rfl ?_
                refine e_if (t := 165) (pc' := 149) hK rfl (by first | omega | exact bo_i _) (by decide) rfl (fun hb146 => ?_) (fun hb146 => ?_)
                · replace hb146 := cq_ne.1.mp hb146
                  try simp only [bo_0, Bool.not_eq_false] at hb146
                  refine e_step (pc' := 167) hK rfl rfl rfl ?_
                  refine e_if (t := 175) (pc' := 170) hK rfl (by first | omega | exact bo_i _) (by decide) rfl (fun hb167 => ?_) (fun hb167 => ?_)
                  · replace hb167 := cq_eq.1.mp hb167
                    try simp only [bo_0, Bool.not_eq_false] at hb167
                    exfalso; first | omega | exact absurd trivial (by assumption) | (first | omega | exact bo_i _)
                  · replace hb167 := cq_eq.2.mp hb167
                    try simp only [bo_0, Bool.not_eq_false] at hb167
                    refine e_step (pc' := 172) hK rfl rfl rfl ?_
                    refine e_goto (t := 177) hK rfl (by decide) ?_
                    refine e_step (pc' := 179) hK rfl rfl rfl ?_
                    try simp only [List.set_cons_zero, List.set_cons_succ]
                    refine e_step (pc' := 182) hK rfl rfl rfl ?_
                    try simp only [List.set_cons_zero, List.set_cons_succ]
                    refine e_goto (t := 55) hK rfl (by decide) ?_
                    have hg : gal A t u k = true := by { rw [hgm, decide_eq_true hb84, decide_eq_true hb90]; rfl }
                    rw [if_pos hg] at hgs
                    exact ih (k + 1) P9 _ _ _ _ ⟨by omega, by rw [hgs]; exact hd, by rw [hgs]; omega⟩
                · replace hb146 := cq_ne.2.mp hb146
                  try simp only [bo_0, Bool.not_eq_false] at hb146
                  exfalso; first | omega | exact absurd trivial (by assumption) | (first | omega | exact bo_i _)
          · replace hb117 := cq_eq.2.mp hb117
            try simp only [bo_0, Bool.not_eq_false] at hb117
            refine e_step (pc' := 122) hK rfl rfl rfl ?_
            refine e_step (pc' := 123) hK rfl rfl rfl ?_
            refine e_icmp (t := 141) (pc' := 126) hK rfl (by first | omega | exact bo_i _) (by first | omega | exact bo_i _) (by decide) rfl (fun hb123 => ?_) (fun hb123 => ?_)
            · replace hb123 := cq_ne.1.mp hb123
              try simp only [bo_0, Bool.not_eq_false] at hb123
              refine e_step (pc' := 142) hK rfl rfl rfl ?_
              refine e_step (pc' := 144) hK rfl rfl rfl ?_
              try simp only [List.set_cons_zero, List.set_cons_succ]
              refine e_step (pc' := 146) hK rfl rfl rfl ?_
              refine e_if (t := 165) (pc' := 149) hK rfl (by first | omega | exact bo_i _) (by decide) rfl (fun hb146 => ?_) (fun hb146 => ?_)
              · replace hb146 := cq_ne.1.mp hb146
                try simp only [bo_0, Bool.not_eq_false] at hb146
                refine e_step (pc' := 167) hK rfl rfl rfl ?_
                refine e_if (t := 175) (pc' := 170) hK rfl (by first | omega | exact bo_i _) (by decide) rfl (fun hb167 => ?_) (fun hb167 => ?_)
                · replace hb167 := cq_eq.1.mp hb167
                  try simp only [bo_0, Bool.not_eq_false] at hb167
                  exfalso; first | omega | exact absurd trivial (by assumption) | (first | omega | exact bo_i _)
                · replace hb167 := cq_eq.2.mp hb167
                  try simp only [bo_0, Bool.not_eq_false] at hb167
                  refine e_step (pc' := 172) hK rfl rfl rfl ?_
                  refine e_goto (t := 177) hK rfl (by decide) ?_
                  refine e_step (pc' := 179) hK rfl rfl rfl ?_
                  try simp only [List.set_cons_zero, List.set_cons_succ]
                  refine e_step (pc' := 182) hK rfl rfl rfl ?_
                  try simp only [List.set_cons_zero, List.set_cons_succ]
                  refine e_goto (t := 55) hK rfl (by decide) ?_
                  have hg : gal A t u k = true := by { rw [hgm, decide_eq_true hb84, decide_eq_true hb90]; rfl }
                  rw [if_pos hg] at hgs
                  exact ih (k + 1) P9 _ _ _ _ ⟨by omega, by rw [hgs]; exact hd, by rw [hgs]; omega⟩
              · replace hb146 := cq_ne.2.mp hb146
                try simp only [bo_0, Bool.not_eq_false] at hb146
                exfalso; first | omega | exact absurd trivial (by assumption) | (first | omega | exact bo_i _)
            · replace hb123 := cq_ne.2.mp hb123
              try simp only [bo_0, Bool.not_eq_false] at hb123
              refine e_step (pc' := 128) hK rfl rfl rfl ?_
              refine e_if (t := 137) (pc' := 131) hK rfl (by first | omega | exact bo_i _) (by decide) rfl (fun hb128 => ?_) (fun hb128 => ?_)
              · replace hb128 := cq_eq.1.mp hb128
                try simp only [bo_0, Bool.not_eq_false] at hb128
                refine e_step (pc' := 138) hK rfl rfl rfl ?_
                refine e_goto (t := 142) hK rfl (by decide) ?_
                refine e_step (pc' := 144) hK rfl rfl rfl ?_
                try simp only [List.set_cons_zero, List.set_cons_succ]
                refine e_step (pc' := 146) hK rfl rfl rfl ?_
                refine e_if (t := 165) (pc' := 149) hK rfl (by first | omega | exact bo_i _) (by decide) rfl (fun hb146 => ?_) (fun hb146 => ?_)
                · replace hb146 := cq_ne.1.mp hb146
                  try simp only [bo_0, Bool.not_eq_false] at hb146
                  refine e_step (pc' := 167) hK rfl rfl rfl ?_
                  refine e_if (t := 175) (pc' := 170) hK rfl (by first | omega | exact bo_i _) (by decide) rfl (fun hb167 => ?_) (fun hb167 => ?_)
                  · replace hb167 := cq_eq.1.mp hb167
                    try simp only [bo_0, Bool.not_eq_false] at hb167
                    exfalso; first | omega | exact absurd trivial (by assumption) | (first | omega | exact bo_i _)
                  · replace hb167 := cq_eq.2.mp hb167
                    try simp only [bo_0, Bool.not_eq_false] at hb167
                    refine e_step (pc' := 172) hK rfl rfl rfl ?_
                    refine e_goto (t := 177) hK rfl (by decide) ?_
                    refine e_step (pc' := 179) hK rfl rfl rfl ?_
                    try simp only [List.set_cons_zero, List.set_cons_succ]
                    refine e_step (pc' := 182) hK rfl rfl rfl ?_
                    try simp only [List.set_cons_zero, List.set_cons_succ]
                    refine e_goto (t := 55) hK rfl (by decide) ?_
                    have hg : gal A t u k = true := by { rw [hgm, decide_eq_true hb84, decide_eq_true hb90]; rfl }
                    rw [if_pos hg] at hgs
                    exact ih (k + 1) P9 _ _ _ _ ⟨by omega, by rw [hgs]; exact hd, by rw [hgs]; omega⟩
                · replace hb146 := cq_ne.2.mp hb146
                  try simp only [bo_0, Bool.not_eq_false] at hb146
                  exfalso; first | omega | exact absurd trivial (by assumption) | (first | omega | exact bo_i _)
              · replace hb128 := cq_eq.2.mp hb128
                try simp only [bo_0, Bool.not_eq_false] at hb128
                refine e_step (pc' := 133) hK rfl rfl rfl ?_
                refine e_step (pc' := 134) hK rfl rfl rfl ?_
                refine e_icmp (t := 141) (pc' := 137) hK rfl (by first | omega | exact bo_i _) (by first | omega | exact bo_i _) (by decide) rfl (fun hb134 => ?_) (fun hb134 => ?_)
                · replace hb134 := cq_ne.1.mp hb134
                  try simp only [bo_0, Bool.not_eq_false] at hb134
                  refine e_step (pc' := 142) hK rfl rfl rfl ?_
                  refine e_step (pc' := 144) hK rfl rfl rfl ?_
                  try simp only [List.set_cons_zero, List.set_cons_succ]
                  refine e_step (pc' := 146) hK rfl rfl rfl ?_
                  refine e_if (t := 165) (pc' := 149) hK rfl (by first | omega | exact bo_i _) (by decide) rfl (fun hb146 => ?_) (fun hb146 => ?_)
                  · replace hb146 := cq_ne.1.mp hb146
                    try simp only [bo_0, Bool.not_eq_false] at hb146
                    refine e_step (pc' := 167) hK rfl rfl rfl ?_
                    refine e_if (t := 175) (pc' := 170) hK rfl (by first | omega | exact bo_i _) (by decide) rfl (fun hb167 => ?_) (fun hb167 => ?_)
                    · replace hb167 := cq_eq.1.mp hb167
                      try simp only [bo_0, Bool.not_eq_false] at hb167
                      exfalso; first | omega | exact absurd trivial (by assumption) | (first | omega | exact bo_i _)
                    · replace hb167 := cq_eq.2.mp hb167
                      try simp only [bo_0, Bool.not_eq_false] at hb167
                      refine e_step (pc' := 172) hK rfl rfl rfl ?_
                      refine e_goto (t := 177) hK rfl (by decide) ?_
                      refine e_step (pc' := 179) hK rfl rfl rfl ?_
                      try simp only [List.set_cons_zero, List.set_cons_succ]
                      refine e_step (pc' := 182) hK rfl rfl rfl ?_
                      try simp only [List.set_cons_zero, List.set_cons_succ]
                      refine e_goto (t := 55) hK rfl (by decide) ?_
                      have hg : gal A t u k = true := by { rw [hgm, decide_eq_true hb84, decide_eq_true hb90]; rfl }
                      rw [if_pos hg] at hgs
                      exact ih (k + 1) P9 _ _ _ _ ⟨by omega, by rw [hgs]; exact hd, by rw [hgs]; omega⟩
                  · replace hb146 := cq_ne.2.mp hb146
                    try simp only [bo_0, Bool.not_eq_false] at hb146
                    exfalso; first | omega | exact absurd trivial (by assumption) | (first | omega | exact bo_i _)
                · replace hb134 := cq_ne.2.mp hb134
                  try simp only [bo_0, Bool.not_eq_false] at hb134
                  refine e_step (pc' := 138) hK rfl rfl rfl ?_
                  refine e_goto (t := 142) hK rfl (by decide) ?_
                  refine e_step (pc' := 144) hK rfl rfl rfl ?_
                  try simp only [List.set_cons_zero, List.set_cons_succ]
                  refine e_step (pc' := 146) hK rfl rfl rfl ?_
                  refine e_if (t := 165) (pc' := 149) hK rfl (by first | omega | exact bo_i _) (by decide) rfl (fun hb146 => ?_) (fun hb146 => ?_)
                  · replace hb146 := cq_ne.1.mp hb146
                    try simp only [bo_0, Bool.not_eq_false] at hb146
                    refine e_step (pc' := 167) hK rfl rfl rfl ?_
                    refine e_if (t := 175) (pc' := 170) hK rfl (by first | omega | exact bo_i _) (by decide) rfl (fun hb167 => ?_) (fun hb167 => ?_)
                    · replace hb167 := cq_eq.1.mp hb167
                      try simp only [bo_0, Bool.not_eq_false] at hb167
                      exfalso; first | omega | exact absurd trivial (by assumption) | (first | omega | exact bo_i _)
                    · replace hb167 := cq_eq.2.mp hb167
                      try simp only [bo_0, Bool.not_eq_false] at hb167
                      refine e_step (pc' := 172) hK rfl rfl rfl ?_
                      refine e_goto (t := 177) hK rfl (by decide) ?_
                      refine e_step (pc' := 179) hK rfl rfl rfl ?_
                      try simp only [List.set_cons_zero, List.set_cons_succ]
                      refine e_step (pc' := 182) hK rfl rfl rfl ?_
                      try simp only [List.set_cons_zero, List.set_cons_succ]
                      refine e_goto (t := 55) hK rfl (by decide) ?_
                      have hg : gal A t u k = true := by { rw [hgm, decide_eq_true hb84, decide_eq_true hb90]; rfl }
                      rw [if_pos hg] at hgs
                      exact ih (k + 1) P9 _ _ _ _ ⟨by omega, by rw [hgs]; exact hd, by rw [hgs]; omega⟩
                  · replace hb146 := cq_ne.2.mp hb146
                    try simp only [bo_0, Bool.not_eq_false] at hb146
                    exfalso; first | omega | exact absurd trivial (by assumption) | (first | omega | exact bo_i _)
        · replace hb90 := cq_ge.2.mp hb90
          try simp only [bo_0, Bool.not_eq_false] at hb90
          refine e_step (pc' := 94) hK rfl rfl rfl ?_
          refine e_step (pc' := 95) hK rfl rfl rfl ?_
          refine e_step (pc' := 97) hK rfl rfl rfl ?_
          refine e_step (pc' := 99) hK rfl rfl rfl ?_
          refine e_step (pc' := 101) hK rfl rfl rfl ?_
          refine e_step (pc' := 102) hK rfl rfl rfl ?_
          refine e_cRV4 (z := 126) (pc' := 105) hK rfl rfl (by first | (simp (disch := omega) only [mH_t64, mH_r1, mH_r3, mH_r4, mH_r5, mH_r6, mH_r8, mH_r9, mH_r10, mH_r11, mH_r12, mH_r14, mH_i0, mH_i2, mH_i7, mH_i13, mH_i15, mH_t71, mH_t, mH_lr, mH_l65, mH_l69, mH_l70, mH_l71, mH_l72, mH_l73, mH_l74, mH_l75, mH_c, rk1, rk2]; rfl) | (show _ = 2; assumption) | (show _ = 1; assumption) | (show _ = 0; assumption) | (show _ = 3; assumption) | (show _ = 4; assumption)) rfl (Nat.le_of_ble_eq_true rfl) (Nat.le_of_ble_eq_true rfl) (m_same a ha (hx k (by omega) (by omega)) (hy k (by omega) (by omega))) (by decide) rfl ?_
          try simp (disch := omega) only [mH_t64, mH_r1, mH_r3, mH_r4, mH_r5, mH_r6, mH_r8, mH_r9, mH_r10, mH_r11, mH_r12, mH_r14, mH_i0, mH_i2, mH_i7, mH_i13, mH_i15, mH_t71, mH_t, mH_lr, mH_l65, mH_l69, mH_l70, mH_l71, mH_l72, mH_l73, mH_l74, mH_l75, mH_c, rk1, rk2]
          refine e_if (t := 112) (pc' := 108) hK rfl (by first | omega | exact bo_i _) (by decide) rfl (fun hb105 => ?_) (fun hb105 => ?_)
          · replace hb105 := cq_eq.1.mp hb105
            try simp only [bo_0, Bool.not_eq_false] at hb105
            refine e_step (pc' := 113) hK rfl rfl rfl ?_
            refine e_step (pc' := 115) hK rfl rfl rfl ?_
            try simp only [List.set_cons_zero, List.set_cons_succ]
            refine e_step (pc' := 117) hK rfl rfl rfl ?_
            refine e_if (t := 126) (pc' := 120) hK rfl (by first | omega | exact bo_i _) (by decide) rfl (fun hb117 => ?_) (fun hb117 => ?_)
            · replace hb117 := cq_eq.1.mp hb117
              try simp only [bo_0, Bool.not_eq_false] at hb117
              refine e_step (pc' := 128) hK rfl rfl rfl ?_
              refine e_if (t := 137) (pc' := 131) hK rfl (by first | omega | exact bo_i _) (by decide) rfl (fun hb128 => ?_) (fun hb128 => ?_)
              · replace hb128 := cq_eq.1.mp hb128
                try simp only [bo_0, Bool.not_eq_false] at hb128
                refine e_step (pc' := 138) hK rfl rfl rfl ?_
                refine e_goto (t := 142) hK rfl (by decide) ?_
                refine e_step (pc' := 144) hK rfl rfl rfl ?_
                try simp only [List.set_cons_zero, List.set_cons_succ]
                refine e_step (pc' := 146) hK rfl rfl rfl ?_
                refine e_if (t := 165) (pc' := 149) hK rfl (by first | omega | exact bo_i _) (by decide) rfl (fun hb146 => ?_) (fun hb146 => ?_)
                · replace hb146 := cq_ne.1.mp hb146
                  try simp only [bo_0, Bool.not_eq_false] at hb146
                  exfalso; first | omega | exact absurd trivial (by assumption) | (first | omega | exact bo_i _)
                · replace hb146 := cq_ne.2.mp hb146
                  try simp only [bo_0, Bool.not_eq_false] at hb146
                  refine e_step (pc' := 151) hK rfl rfl rfl ?_
                  refine e_if (t := 161) (pc' := 154) hK rfl (by first | omega | exact bo_i _) (by decide) rfl (fun hb151 => ?_) (fun hb151 => ?_)
                  · replace hb151 := cq_eq.1.mp hb151
                    try simp only [bo_0, Bool.not_eq_false] at hb151
                    exfalso; first | omega | exact absurd trivial (by assumption) | (first | omega | exact bo_i _)
                  · replace hb151 := cq_eq.2.mp hb151
                    try simp only [bo_0, Bool.not_eq_false] at hb151
                    refine e_step (pc' := 156) hK rfl rfl rfl ?_
                    refine e_step (pc' := 158) hK rfl rfl rfl ?_
                    refine e_icmp (t := 165) (pc' := 161) hK rfl (by first | omega | exact bo_i _) (by first | omega | exact bo_i _) (by decide) rfl (fun hb158 => ?_) (fun hb158 => ?_)
                    · replace hb158 := cq_ge.1.mp hb158
                      try simp only [bo_0, Bool.not_eq_false] at hb158
                      refine e_step (pc' := 167) hK rfl rfl rfl ?_
                      refine e_if (t := 175) (pc' := 170) hK rfl (by first | omega | exact bo_i _) (by decide) rfl (fun hb167 => ?_) (fun hb167 => ?_)
                      · replace hb167 := cq_eq.1.mp hb167
                        try simp only [bo_0, Bool.not_eq_false] at hb167
                        refine e_step (pc' := 177) hK rfl rfl rfl ?_
                        refine e_step (pc' := 179) hK rfl rfl rfl ?_
                        try simp only [List.set_cons_zero, List.set_cons_succ]
                        refine e_step (pc' := 182) hK rfl rfl rfl ?_
                        try simp only [List.set_cons_zero, List.set_cons_succ]
                        refine e_goto (t := 55) hK rfl (by decide) ?_
                        have hg : gal A t u k = false := by { rw [hgm, decide_eq_false (show ¬ 3 ≤ gk A t k by omega), hb105]; exact Bool.and_false _ }
                        rw [if_neg (by rw [hg]; decide), if_neg (by omega)] at hgs
                        exact ih (k + 1) k _ _ _ _ ⟨by omega, by rw [hgs]; omega, by rw [hgs]; omega⟩
                      · replace hb167 := cq_eq.2.mp hb167
                        try simp only [bo_0, Bool.not_eq_false] at hb167
                        exfalso; first | omega | exact absurd trivial (by assumption) | (first | omega | exact bo_i _)
                    · replace hb158 := cq_ge.2.mp hb158
                      try simp only [bo_0, Bool.not_eq_false] at hb158
                      refine e_step (pc' := 164) hK rfl rfl rfl ?_
                      refine e_ret hK rfl rfl rfl ?_
                      have hg : gal A t u k = false := by { rw [hgm, decide_eq_false (show ¬ 3 ≤ gk A t k by omega), hb105]; exact Bool.and_false _ }
                      rw [if_neg (by rw [hg]; decide), if_pos (by omega)] at hgs
                      have e9 := gdl_stop hgs (xn (gs A t)).toNat (by omega)
                      have eg : god A t u = -9999 := by { unfold god; rw [if_pos hn, e9] }
                      refine ⟨?_, rfl, rfl⟩
                      congr 1
                      unfold mpr
                      rw [eg]
                      rfl
              · replace hb128 := cq_eq.2.mp hb128
                try simp only [bo_0, Bool.not_eq_false] at hb128
                refine e_step (pc' := 133) hK rfl rfl rfl ?_
                refine e_step (pc' := 134) hK rfl rfl rfl ?_
                refine e_icmp (t := 141) (pc' := 137) hK rfl (by first | omega | exact bo_i _) (by first | omega | exact bo_i _) (by decide) rfl (fun hb134 => ?_) (fun hb134 => ?_)
                · replace hb134 := cq_ne.1.mp hb134
                  try simp only [bo_0, Bool.not_eq_false] at hb134
                  refine e_step (pc' := 142) hK rfl rfl rfl ?_
                  refine e_step (pc' := 144) hK rfl rfl rfl ?_
                  try simp only [List.set_cons_zero, List.set_cons_succ]
                  refine e_step (pc' := 146) hK rfl rfl rfl ?_
                  refine e_if (t := 165) (pc' := 149) hK rfl (by first | omega | exact bo_i _) (by decide) rfl (fun hb146 => ?_) (fun hb146 => ?_)
                  · replace hb146 := cq_ne.1.mp hb146
                    try simp only [bo_0, Bool.not_eq_false] at hb146
                    exfalso; first | omega | exact absurd trivial (by assumption) | (first | omega | exact bo_i _)
                  · replace hb146 := cq_ne.2.mp hb146
                    try simp only [bo_0, Bool.not_eq_false] at hb146
                    refine e_step (pc' := 151) hK rfl rfl rfl ?_
                    refine e_if (t := 161) (pc' := 154) hK rfl (by first | omega | exact bo_i _) (by decide) rfl (fun hb151 => ?_) (fun hb151 => ?_)
                    · replace hb151 := cq_eq.1.mp hb151
                      try simp only [bo_0, Bool.not_eq_false] at hb151
                      refine e_step (pc' := 164) hK rfl rfl rfl ?_
                      refine e_ret hK rfl rfl rfl ?_
                      have hg : gal A t u k = false := by { rw [hgm, decide_eq_false (show ¬ 3 ≤ gk A t k by omega), hb105]; exact Bool.and_false _ }
                      rw [if_neg (by rw [hg]; decide), if_pos (by omega)] at hgs
                      have e9 := gdl_stop hgs (xn (gs A t)).toNat (by omega)
                      have eg : god A t u = -9999 := by { unfold god; rw [if_pos hn, e9] }
                      refine ⟨?_, rfl, rfl⟩
                      congr 1
                      unfold mpr
                      rw [eg]
                      rfl
                    · replace hb151 := cq_eq.2.mp hb151
                      try simp only [bo_0, Bool.not_eq_false] at hb151
                      exfalso; first | omega | exact absurd trivial (by assumption) | (first | omega | exact bo_i _)
                · replace hb134 := cq_ne.2.mp hb134
                  try simp only [bo_0, Bool.not_eq_false] at hb134
                  refine e_step (pc' := 138) hK rfl rfl rfl ?_
                  refine e_goto (t := 142) hK rfl (by decide) ?_
                  refine e_step (pc' := 144) hK rfl rfl rfl ?_
                  try simp only [List.set_cons_zero, List.set_cons_succ]
                  refine e_step (pc' := 146) hK rfl rfl rfl ?_
                  refine e_if (t := 165) (pc' := 149) hK rfl (by first | omega | exact bo_i _) (by decide) rfl (fun hb146 => ?_) (fun hb146 => ?_)
                  · replace hb146 := cq_ne.1.mp hb146
                    try simp only [bo_0, Bool.not_eq_false] at hb146
                    exfalso; first | omega | exact absurd trivial (by assumption) | (first | omega | exact bo_i _)
                  · replace hb146 := cq_ne.2.mp hb146
                    try simp only [bo_0, Bool.not_eq_false] at hb146
                    refine e_step (pc' := 151) hK rfl rfl rfl ?_
                    refine e_if (t := 161) (pc' := 154) hK rfl (by first | omega | exact bo_i _) (by decide) rfl (fun hb151 => ?_) (fun hb151 => ?_)
                    · replace hb151 := cq_eq.1.mp hb151
                      try simp only [bo_0, Bool.not_eq_false] at hb151
                      exfalso; first | omega | exact absurd trivial (by assumption) | (first | omega | exact bo_i _)
                    · replace hb151 := cq_eq.2.mp hb151
                      try simp only [bo_0, Bool.not_eq_false] at hb151
                      refine e_step (pc' := 156) hK rfl rfl rfl ?_
                      refine e_step (pc' := 158) hK rfl rfl rfl ?_
                      refine e_icmp (t := 165) (pc' := 161) hK rfl (by first | omega | exact bo_i _) (by first | omega | exact bo_i _) (by decide) rfl (fun hb158 => ?_) (fun hb158 => ?_)
                      · replace hb158 := cq_ge.1.mp hb158
                        try simp only [bo_0, Bool.not_eq_false] at hb158
                        refine e_step (pc' := 167) hK rfl rfl rfl ?_
                        refine e_if (t := 175) (pc' := 170) hK rfl (by first | omega | exact bo_i _) (by decide) rfl (fun hb167 => ?_) (fun hb167 => ?_)
                        · replace hb167 := cq_eq.1.mp hb167
                          try simp only [bo_0, Bool.not_eq_false] at hb167
                          refine e_step (pc' := 177) hK rfl rfl rfl ?_
                          refine e_step (pc' := 179) hK rfl rfl rfl ?_
                          try simp only [List.set_cons_zero, List.set_cons_succ]
                          refine e_step (pc' := 182) hK rfl rfl rfl ?_
                          try simp only [List.set_cons_zero, List.set_cons_succ]
                          refine e_goto (t := 55) hK rfl (by decide) ?_
                          have hg : gal A t u k = false := by { rw [hgm, decide_eq_false (show ¬ 3 ≤ gk A t k by omega), hb105]; exact Bool.and_false _ }
                          rw [if_neg (by rw [hg]; decide), if_neg (by omega)] at hgs
                          exact ih (k + 1) k _ _ _ _ ⟨by omega, by rw [hgs]; omega, by rw [hgs]; omega⟩
                        · replace hb167 := cq_eq.2.mp hb167
                          try simp only [bo_0, Bool.not_eq_false] at hb167
                          exfalso; first | omega | exact absurd trivial (by assumption) | (first | omega | exact bo_i _)
                      · replace hb158 := cq_ge.2.mp hb158
                        try simp only [bo_0, Bool.not_eq_false] at hb158
                        refine e_step (pc' := 164) hK rfl rfl rfl ?_
                        refine e_ret hK rfl rfl rfl ?_
                        have hg : gal A t u k = false := by { rw [hgm, decide_eq_false (show ¬ 3 ≤ gk A t k by omega), hb105]; exact Bool.and_false _ }
                        rw [if_neg (by rw [hg]; decide), if_pos (by omega)] at hgs
                        have e9 := gdl_stop hgs (xn (gs A t)).toNat (by omega)
                        have eg : god A t u = -9999 := by { unfold god; rw [if_pos hn, e9] }
                        refine ⟨?_, rfl, rfl⟩
                        congr 1
                        unfold mpr
                        rw [eg]
                        rfl
            · replace hb117 := cq_eq.2.mp hb117
              try simp only [bo_0, Bool.not_eq_false] at hb117
              refine e_step (pc' := 122) hK rfl rfl rfl ?_
              refine e_step (pc' := 123) hK rfl rfl rfl ?_
              refine e_icmp (t := 141) (pc' := 126) hK rfl (by first | omega | exact bo_i _) (by first | omega | exact bo_i _) (by decide) rfl (fun hb123 => ?_) (fun hb123 => ?_)
              · replace hb123 := cq_ne.1.mp hb123
                try simp only [bo_0, Bool.not_eq_false] at hb123
                refine e_step (pc' := 142) hK rfl rfl rfl ?_
                refine e_step (pc' := 144) hK rfl rfl rfl ?_
                try simp only [List.set_cons_zero, List.set_cons_succ]
                refine e_step (pc' := 146) hK rfl rfl rfl ?_
                refine e_if (t := 165) (pc' := 149) hK rfl (by first | omega | exact bo_i _) (by decide) rfl (fun hb146 => ?_) (fun hb146 => ?_)
                · replace hb146 := cq_ne.1.mp hb146
                  try simp only [bo_0, Bool.not_eq_false] at hb146
                  exfalso; first | omega | exact absurd trivial (by assumption) | (first | omega | exact bo_i _)
                · replace hb146 := cq_ne.2.mp hb146
                  try simp only [bo_0, Bool.not_eq_false] at hb146
                  refine e_step (pc' := 151) hK rfl rfl rfl ?_
                  refine e_if (t := 161) (pc' := 154) hK rfl (by first | omega | exact bo_i _) (by decide) rfl (fun hb151 => ?_) (fun hb151 => ?_)
                  · replace hb151 := cq_eq.1.mp hb151
                    try simp only [bo_0, Bool.not_eq_false] at hb151
                    refine e_step (pc' := 164) hK rfl rfl rfl ?_
                    refine e_ret hK rfl rfl rfl ?_
                    have hg : gal A t u k = false := by { rw [hgm, decide_eq_false (show ¬ 3 ≤ gk A t k by omega), hb105]; exact Bool.and_false _ }
                    rw [if_neg (by rw [hg]; decide), if_pos (by omega)] at hgs
                    have e9 := gdl_stop hgs (xn (gs A t)).toNat (by omega)
                    have eg : god A t u = -9999 := by { unfold god; rw [if_pos hn, e9] }
                    refine ⟨?_, rfl, rfl⟩
                    congr 1
                    unfold mpr
                    rw [eg]
                    rfl
                  · replace hb151 := cq_eq.2.mp hb151
                    try simp only [bo_0, Bool.not_eq_false] at hb151
                    exfalso; first | omega | exact absurd trivial (by assumption) | (first | omega | exact bo_i _)
              · replace hb123 := cq_ne.2.mp hb123
                try simp only [bo_0, Bool.not_eq_false] at hb123
                refine e_step (pc' := 128) hK rfl rfl rfl ?_
                refine e_if (t := 137) (pc' := 131) hK rfl (by first | omega | exact bo_i _) (by decide) rfl (fun hb128 => ?_) (fun hb128 => ?_)
                · replace hb128 := cq_eq.1.mp hb128
                  try simp only [bo_0, Bool.not_eq_false] at hb128
                  refine e_step (pc' := 138) hK rfl rfl rfl ?_
                  refine e_goto (t := 142) hK rfl (by decide) ?_
                  refine e_step (pc' := 144) hK rfl rfl rfl ?_
                  try simp only [List.set_cons_zero, List.set_cons_succ]
                  refine e_step (pc' := 146) hK rfl rfl rfl ?_
                  refine e_if (t := 165) (pc' := 149) hK rfl (by first | omega | exact bo_i _) (by decide) rfl (fun hb146 => ?_) (fun hb146 => ?_)
                  · replace hb146 := cq_ne.1.mp hb146
                    try simp only [bo_0, Bool.not_eq_false] at hb146
                    exfalso; first | omega | exact absurd trivial (by assumption) | (first | omega | exact bo_i _)
                  · replace hb146 := cq_ne.2.mp hb146
                    try simp only [bo_0, Bool.not_eq_false] at hb146
                    refine e_step (pc' := 151) hK rfl rfl rfl ?_
                    refine e_if (t := 161) (pc' := 154) hK rfl (by first | omega | exact bo_i _) (by decide) rfl (fun hb151 => ?_) (fun hb151 => ?_)
                    · replace hb151 := cq_eq.1.mp hb151
                      try simp only [bo_0, Bool.not_eq_false] at hb151
                      exfalso; first | omega | exact absurd trivial (by assumption) | (first | omega | exact bo_i _)
                    · replace hb151 := cq_eq.2.mp hb151
                      try simp only [bo_0, Bool.not_eq_false] at hb151
                      refine e_step (pc' := 156) hK rfl rfl rfl ?_
                      refine e_step (pc' := 158) hK rfl rfl rfl ?_
                      refine e_icmp (t := 165) (pc' := 161) hK rfl (by first | omega | exact bo_i _) (by first | omega | exact bo_i _) (by decide) rfl (fun hb158 => ?_) (fun hb158 => ?_)
                      · replace hb158 := cq_ge.1.mp hb158
                        try simp only [bo_0, Bool.not_eq_false] at hb158
                        refine e_step (pc' := 167) hK rfl rfl rfl ?_
                        refine e_if (t := 175) (pc' := 170) hK rfl (by first | omega | exact bo_i _) (by decide) rfl (fun hb167 => ?_) (fun hb167 => ?_)
                        · replace hb167 := cq_eq.1.mp hb167
                          try simp only [bo_0, Bool.not_eq_false] at hb167
                          refine e_step (pc' := 177) hK rfl rfl rfl ?_
                          refine e_step (pc' := 179) hK rfl rfl rfl ?_
                          try simp only [List.set_cons_zero, List.set_cons_succ]
                          refine e_step (pc' := 182) hK rfl rfl rfl ?_
                          try simp only [List.set_cons_zero, List.set_cons_succ]
                          refine e_goto (t := 55) hK rfl (by decide) ?_
                          have hg : gal A t u k = false := by { rw [hgm, decide_eq_false (show ¬ 3 ≤ gk A t k by omega), hb105]; exact Bool.and_false _ }
                          rw [if_neg (by rw [hg]; decide), if_neg (by omega)] at hgs
                          exact ih (k + 1) k _ _ _ _ ⟨by omega, by rw [hgs]; omega, by rw [hgs]; omega⟩
                        · replace hb167 := cq_eq.2.mp hb167
                          try simp only [bo_0, Bool.not_eq_false] at hb167
                          exfalso; first | omega | exact absurd trivial (by assumption) | (first | omega | exact bo_i _)
                      · replace hb158 := cq_ge.2.mp hb158
                        try simp only [bo_0, Bool.not_eq_false] at hb158
                        refine e_step (pc' := 164) hK rfl rfl rfl ?_
                        refine e_ret hK rfl rfl rfl ?_
                        have hg : gal A t u k = false := by { rw [hgm, decide_eq_false (show ¬ 3 ≤ gk A t k by omega), hb105]; exact Bool.and_false _ }
                        rw [if_neg (by rw [hg]; decide), if_pos (by omega)] at hgs
                        have e9 := gdl_stop hgs (xn (gs A t)).toNat (by omega)
                        have eg : god A t u = -9999 := by { unfold god; rw [if_pos hn, e9] }
                        refine ⟨?_, rfl, rfl⟩
                        congr 1
                        unfold mpr
                        rw [eg]
                        rfl
                · replace hb128 := cq_eq.2.mp hb128
                  try simp only [bo_0, Bool.not_eq_false] at hb128
                  refine e_step (pc' := 133) hK rfl rfl rfl ?_
                  refine e_step (pc' := 134) hK rfl rfl rfl ?_
                  refine e_icmp (t := 141) (pc' := 137) hK rfl (by first | omega | exact bo_i _) (by first | omega | exact bo_i _) (by decide) rfl (fun hb134 => ?_) (fun hb134 => ?_)
                  · replace hb134 := cq_ne.1.mp hb134
                    try simp only [bo_0, Bool.not_eq_false] at hb134
                    refine e_step (pc' := 142) hK rfl rfl rfl ?_
                    refine e_step (pc' := 144) hK rfl rfl rfl ?_
                    try simp only [List.set_cons_zero, List.set_cons_succ]
                    refine e_step (pc' := 146) hK rfl rfl rfl ?_
                    refine e_if (t := 165) (pc' := 149) hK rfl (by first | omega | exact bo_i _) (by decide) rfl (fun hb146 => ?_) (fun hb146 => ?_)
                    · replace hb146 := cq_ne.1.mp hb146
                      try simp only [bo_0, Bool.not_eq_false] at hb146
                      exfalso; first | omega | exact absurd trivial (by assumption) | (first | omega | exact bo_i _)
                    · replace hb146 := cq_ne.2.mp hb146
                      try simp only [bo_0, Bool.not_eq_false] at hb146
                      refine e_step (pc' := 151) hK rfl rfl rfl ?_
                      refine e_if (t := 161) (pc' := 154) hK rfl (by first | omega | exact bo_i _) (by decide) rfl (fun hb151 => ?_) (fun hb151 => ?_)
                      · replace hb151 := cq_eq.1.mp hb151
                        try simp only [bo_0, Bool.not_eq_false] at hb151
                        refine e_step (pc' := 164) hK rfl rfl rfl ?_
                        refine e_ret hK rfl rfl rfl ?_
                        have hg : gal A t u k = false := by { rw [hgm, decide_eq_false (show ¬ 3 ≤ gk A t k by omega), hb105]; exact Bool.and_false _ }
                        rw [if_neg (by rw [hg]; decide), if_pos (by omega)] at hgs
                        have e9 := gdl_stop hgs (xn (gs A t)).toNat (by omega)
                        have eg : god A t u = -9999 := by { unfold god; rw [if_pos hn, e9] }
                        refine ⟨?_, rfl, rfl⟩
                        congr 1
                        unfold mpr
                        rw [eg]
                        rfl
                      · replace hb151 := cq_eq.2.mp hb151
                        try simp only [bo_0, Bool.not_eq_false] at hb151
                        exfalso; first | omega | exact absurd trivial (by assumption) | (first | omega | exact bo_i _)
                  · replace hb134 := cq_ne.2.mp hb134
                    try simp only [bo_0, Bool.not_eq_false] at hb134
                    refine e_step (pc' := 138) hK rfl rfl rfl ?_
                    refine e_goto (t := 142) hK rfl (by decide) ?_
                    refine e_step (pc' := 144) hK rfl rfl rfl ?_
                    try simp only [List.set_cons_zero, List.set_cons_succ]
                    refine e_step (pc' := 146) hK rfl rfl rfl ?_
                    refine e_if (t := 165) (pc' := 149) hK rfl (by first | omega | exact bo_i _) (by decide) rfl (fun hb146 => ?_) (fun hb146 => ?_)
                    · replace hb146 := cq_ne.1.mp hb146
                      try simp only [bo_0, Bool.not_eq_false] at hb146
                      exfalso; first | omega | exact absurd trivial (by assumption) | (first | omega | exact bo_i _)
                    · replace hb146 := cq_ne.2.mp hb146
                      try simp only [bo_0, Bool.not_eq_false] at hb146
                      refine e_step (pc' := 151) hK rfl rfl rfl ?_
                      refine e_if (t := 161) (pc' := 154) hK rfl (by first | omega | exact bo_i _) (by decide) rfl (fun hb151 => ?_) (fun hb151 => ?_)
                      · replace hb151 := cq_eq.1.mp hb151
                        try simp only [bo_0, Bool.not_eq_false] at hb151
                        exfalso; first | omega | exact absurd trivial (by assumption) | (first | omega | exact bo_i _)
                      · replace hb151 := cq_eq.2.mp hb151
                        try simp only [bo_0, Bool.not_eq_false] at hb151
                        refine e_step (pc' := 156) hK rfl rfl rfl ?_
                        refine e_step (pc' := 158) hK rfl rfl rfl ?_
                        refine e_icmp (t := 165) (pc' := 161) hK rfl (by first | omega | exact bo_i _) (by first | omega | exact bo_i _) (by decide) rfl (fun hb158 => ?_) (fun hb158 => ?_)
                        · replace hb158 := cq_ge.1.mp hb158
                          try simp only [bo_0, Bool.not_eq_false] at hb158
                          refine e_step (pc' := 167) hK rfl rfl rfl ?_
                          refine e_if (t := 175) (pc' := 170) hK rfl (by first | omega | exact bo_i _) (by decide) rfl (fun hb167 => ?_) (fun hb167 => ?_)
                          · replace hb167 := cq_eq.1.mp hb167
                            try simp only [bo_0, Bool.not_eq_false] at hb167
                            refine e_step (pc' := 177) hK rfl rfl rfl ?_
                            refine e_step (pc' := 179) hK rfl rfl rfl ?_
                            try simp only [List.set_cons_zero, List.set_cons_succ]
                            refine e_step (pc' := 182) hK rfl rfl rfl ?_
                            try simp only [List.set_cons_zero, List.set_cons_succ]
                            refine e_goto (t := 55) hK rfl (by decide) ?_
                            have hg : gal A t u k = false := by { rw [hgm, decide_eq_false (show ¬ 3 ≤ gk A t k by omega), hb105]; exact Bool.and_false _ }
                            rw [if_neg (by rw [hg]; decide), if_neg (by omega)] at hgs
                            exact ih (k + 1) k _ _ _ _ ⟨by omega, by rw [hgs]; omega, by rw [hgs]; omega⟩
                          · replace hb167 := cq_eq.2.mp hb167
                            try simp only [bo_0, Bool.not_eq_false] at hb167
                            exfalso; first | omega | exact absurd trivial (by assumption) | (first | omega | exact bo_i _)
                        · replace hb158 := cq_ge.2.mp hb158
                          try simp only [bo_0, Bool.not_eq_false] at hb158
                          refine e_step (pc' := 164) hK rfl rfl rfl ?_
                          refine e_ret hK rfl rfl rfl ?_
                          have hg : gal A t u k = false := by { rw [hgm, decide_eq_false (show ¬ 3 ≤ gk A t k by omega), hb105]; exact Bool.and_false _ }
                          rw [if_neg (by rw [hg]; decide), if_pos (by omega)] at hgs
                          have e9 := gdl_stop hgs (xn (gs A t)).toNat (by omega)
                          have eg : god A t u = -9999 := by { unfold god; rw [if_pos hn, e9] }
                          refine ⟨?_, rfl, rfl⟩
                          congr 1
                          unfold mpr
                          rw [eg]
                          rfl
          · replace hb105 := cq_eq.2.mp hb105
            try simp only [bo_0, Bool.not_eq_false] at hb105
            refine e_step (pc' := 109) hK rfl rfl rfl ?_
            refine e_goto (t := 113) hK rfl (by decide) ?_
            refine e_step (pc' := 115) hK rfl rfl rfl ?_
            try simp only [List.set_cons_zero, List.set_cons_succ]
            refine e_step (pc' := 117) hK rfl rfl rfl ?_
            refine e_if (t := 126) (pc' := 120) hK rfl (by first | omega | exact bo_i _) (by decide) rfl (fun hb117 => ?_) (fun hb117 => ?_)
            · replace hb117 := cq_eq.1.mp hb117
              try simp only [bo_0, Bool.not_eq_false] at hb117
              refine e_step (pc' := 128) hK rfl rfl rfl ?_
              refine e_if (t := 137) (pc' := 131) hK rfl (by first | omega | exact bo_i _) (by decide) rfl (fun hb128 => ?_) (fun hb128 => ?_)
              · replace hb128 := cq_eq.1.mp hb128
                try simp only [bo_0, Bool.not_eq_false] at hb128
                refine e_step (pc' := 138) hK rfl rfl rfl ?_
                refine e_goto (t := 142) hK rfl (by decide) ?_
                refine e_step (pc' := 144) hK rfl rfl rfl ?_
                try simp only [List.set_cons_zero, List.set_cons_succ]
                refine e_step (pc' := 146) hK rfl rfl rfl ?_
                refine e_if (t := 165) (pc' := 149) hK rfl (by first | omega | exact bo_i _) (by decide) rfl (fun hb146 => ?_) (fun hb146 => ?_)
                · replace hb146 := cq_ne.1.mp hb146
                  try simp only [bo_0, Bool.not_eq_false] at hb146
                  refine e_step (pc' := 167) hK rfl rfl rfl ?_
                  refine e_if (t := 175) (pc' := 170) hK rfl (by first | omega | exact bo_i _) (by decide) rfl (fun hb167 => ?_) (fun hb167 => ?_)
                  · replace hb167 := cq_eq.1.mp hb167
                    try simp only [bo_0, Bool.not_eq_false] at hb167
                    exfalso; first | omega | exact absurd trivial (by assumption) | (first | omega | exact bo_i _)
                  · replace hb167 := cq_eq.2.mp hb167
                    try simp only [bo_0, Bool.not_eq_false] at hb167
                    refine e_step (pc' := 172) hK rfl rfl rfl ?_
                    refine e_goto (t := 177) hK rfl (by decide) ?_
                    refine e_step (pc' := 179) hK rfl rfl rfl ?_
                    try simp only [List.set_cons_zero, List.set_cons_succ]
                    refine e_step (pc' := 182) hK rfl rfl rfl ?_
                    try simp only [List.set_cons_zero, List.set_cons_succ]
                    refine e_goto (t := 55) hK rfl (by decide) ?_
                    have hg : gal A t u k = true := by { rw [hgm, decide_eq_true hb84, hb105, Bool.or_true]; rfl }
                    rw [if_pos hg] at hgs
                    exact ih (k + 1) P9 _ _ _ _ ⟨by omega, by rw [hgs]; exact hd, by rw [hgs]; omega⟩
                · replace hb146 := cq_ne.2.mp hb146
                  try simp only [bo_0, Bool.not_eq_false] at hb146
                  exfalso; first | omega | exact absurd trivial (by assumption) | (first | omega | exact bo_i _)
              · replace hb128 := cq_eq.2.mp hb128
                try simp only [bo_0, Bool.not_eq_false] at hb128
                refine e_step (pc' := 133) hK rfl rfl rfl ?_
                refine e_step (pc' := 134) hK rfl rfl rfl ?_
                refine e_icmp (t := 141) (pc' := 137) hK rfl (by first | omega | exact bo_i _) (by first | omega | exact bo_i _) (by decide) rfl (fun hb134 => ?_) (fun hb134 => ?_)
                · replace hb134 := cq_ne.1.mp hb134
                  try simp only [bo_0, Bool.not_eq_false] at hb134
                  refine e_step (pc' := 142) hK rfl rfl rfl ?_
                  refine e_step (pc' := 144) hK rfl rfl rfl ?_
                  try simp only [List.set_cons_zero, List.set_cons_succ]
                  refine e_step (pc' := 146) hK rfl rfl rfl ?_
                  refine e_if (t := 165) (pc' := 149) hK rfl (by first | omega | exact bo_i _) (by decide) rfl (fun hb146 => ?_) (fun hb146 => ?_)
                  · replace hb146 := cq_ne.1.mp hb146
                    try simp only [bo_0, Bool.not_eq_false] at hb146
                    refine e_step (pc' := 167) hK rfl rfl rfl ?_
                    refine e_if (t := 175) (pc' := 170) hK rfl (by first | omega | exact bo_i _) (by decide) rfl (fun hb167 => ?_) (fun hb167 => ?_)
                    · replace hb167 := cq_eq.1.mp hb167
                      try simp only [bo_0, Bool.not_eq_false] at hb167
                      exfalso; first | omega | exact absurd trivial (by assumption) | (first | omega | exact bo_i _)
                    · replace hb167 := cq_eq.2.mp hb167
                      try simp only [bo_0, Bool.not_eq_false] at hb167
                      refine e_step (pc' := 172) hK rfl rfl rfl ?_
                      refine e_goto (t := 177) hK rfl (by decide) ?_
                      refine e_step (pc' := 179) hK rfl rfl rfl ?_
                      try simp only [List.set_cons_zero, List.set_cons_succ]
                      refine e_step (pc' := 182) hK rfl rfl rfl ?_
                      try simp only [List.set_cons_zero, List.set_cons_succ]
                      refine e_goto (t := 55) hK rfl (by decide) ?_
                      have hg : gal A t u k = true := by { rw [hgm, decide_eq_true hb84, hb105, Bool.or_true]; rfl }
                      rw [if_pos hg] at hgs
                      exact ih (k + 1) P9 _ _ _ _ ⟨by omega, by rw [hgs]; exact hd, by rw [hgs]; omega⟩
                  · replace hb146 := cq_ne.2.mp hb146
                    try simp only [bo_0, Bool.not_eq_false] at hb146
                    exfalso; first | omega | exact absurd trivial (by assumption) | (first | omega | exact bo_i _)
                · replace hb134 := cq_ne.2.mp hb134
                  try simp only [bo_0, Bool.not_eq_false] at hb134
                  refine e_step (pc' := 138) hK rfl rfl rfl ?_
                  refine e_goto (t := 142) hK rfl (by decide) ?_
                  refine e_step (pc' := 144) hK rfl rfl rfl ?_
                  try simp only [List.set_cons_zero, List.set_cons_succ]
                  refine e_step (pc' := 146) hK rfl rfl rfl ?_
                  refine e_if (t := 165) (pc' := 149) hK rfl (by first | omega | exact bo_i _) (by decide) rfl (fun hb146 => ?_) (fun hb146 => ?_)
                  · replace hb146 := cq_ne.1.mp hb146
                    try simp only [bo_0, Bool.not_eq_false] at hb146
                    refine e_step (pc' := 167) hK rfl rfl rfl ?_
                    refine e_if (t := 175) (pc' := 170) hK rfl (by first | omega | exact bo_i _) (by decide) rfl (fun hb167 => ?_) (fun hb167 => ?_)
                    · replace hb167 := cq_eq.1.mp hb167
                      try simp only [bo_0, Bool.not_eq_false] at hb167
                      exfalso; first | omega | exact absurd trivial (by assumption) | (first | omega | exact bo_i _)
                    · replace hb167 := cq_eq.2.mp hb167
                      try simp only [bo_0, Bool.not_eq_false] at hb167
                      refine e_step (pc' := 172) hK rfl rfl rfl ?_
                      refine e_goto (t := 177) hK rfl (by decide) ?_
                      refine e_step (pc' := 179) hK rfl rfl rfl ?_
                      try simp only [List.set_cons_zero, List.set_cons_succ]
                      refine e_step (pc' := 182) hK rfl rfl rfl ?_
                      try simp only [List.set_cons_zero, List.set_cons_succ]
                      refine e_goto (t := 55) hK rfl (by decide) ?_
                      have hg : gal A t u k = true := by { rw [hgm, decide_eq_true hb84, hb105, Bool.or_true]; rfl }
                      rw [if_pos hg] at hgs
                      exact ih (k + 1) P9 _ _ _ _ ⟨by omega, by rw [hgs]; exact hd, by rw [hgs]; omega⟩
                  · replace hb146 := cq_ne.2.mp hb146
                    try simp only [bo_0, Bool.not_eq_false] at hb146
                    exfalso; first | omega | exact absurd trivial (by assumption) | (first | omega | exact bo_i _)
            · replace hb117 := cq_eq.2.mp hb117
              try simp only [bo_0, Bool.not_eq_false] at hb117
              refine e_step (pc' := 122) hK rfl rfl rfl ?_
              refine e_step (pc' := 123) hK rfl rfl rfl ?_
              refine e_icmp (t := 141) (pc' := 126) hK rfl (by first | omega | exact bo_i _) (by first | omega | exact bo_i _) (by decide) rfl (fun hb123 => ?_) (fun hb123 => ?_)
              · replace hb123 := cq_ne.1.mp hb123
                try simp only [bo_0, Bool.not_eq_false] at hb123
                refine e_step (pc' := 142) hK rfl rfl rfl ?_
                refine e_step (pc' := 144) hK rfl rfl rfl ?_
                try simp only [List.set_cons_zero, List.set_cons_succ]
                refine e_step (pc' := 146) hK rfl rfl rfl ?_
                refine e_if (t := 165) (pc' := 149) hK rfl (by first | omega | exact bo_i _) (by decide) rfl (fun hb146 => ?_) (fun hb146 => ?_)
                · replace hb146 := cq_ne.1.mp hb146
                  try simp only [bo_0, Bool.not_eq_false] at hb146
                  refine e_step (pc' := 167) hK rfl rfl rfl ?_
                  refine e_if (t := 175) (pc' := 170) hK rfl (by first | omega | exact bo_i _) (by decide) rfl (fun hb167 => ?_) (fun hb167 => ?_)
                  · replace hb167 := cq_eq.1.mp hb167
                    try simp only [bo_0, Bool.not_eq_false] at hb167
                    exfalso; first | omega | exact absurd trivial (by assumption) | (first | omega | exact bo_i _)
                  · replace hb167 := cq_eq.2.mp hb167
                    try simp only [bo_0, Bool.not_eq_false] at hb167
                    refine e_step (pc' := 172) hK rfl rfl rfl ?_
                    refine e_goto (t := 177) hK rfl (by decide) ?_
                    refine e_step (pc' := 179) hK rfl rfl rfl ?_
                    try simp only [List.set_cons_zero, List.set_cons_succ]
                    refine e_step (pc' := 182) hK rfl rfl rfl ?_
                    try simp only [List.set_cons_zero, List.set_cons_succ]
                    refine e_goto (t := 55) hK rfl (by decide) ?_
                    have hg : gal A t u k = true := by { rw [hgm, decide_eq_true hb84, hb105, Bool.or_true]; rfl }
                    rw [if_pos hg] at hgs
                    exact ih (k + 1) P9 _ _ _ _ ⟨by omega, by rw [hgs]; exact hd, by rw [hgs]; omega⟩
                · replace hb146 := cq_ne.2.mp hb146
                  try simp only [bo_0, Bool.not_eq_false] at hb146
                  exfalso; first | omega | exact absurd trivial (by assumption) | (first | omega | exact bo_i _)
              · replace hb123 := cq_ne.2.mp hb123
                try simp only [bo_0, Bool.not_eq_false] at hb123
                refine e_step (pc' := 128) hK rfl rfl rfl ?_
                refine e_if (t := 137) (pc' := 131) hK rfl (by first | omega | exact bo_i _) (by decide) rfl (fun hb128 => ?_) (fun hb128 => ?_)
                · replace hb128 := cq_eq.1.mp hb128
                  try simp only [bo_0, Bool.not_eq_false] at hb128
                  refine e_step (pc' := 138) hK rfl rfl rfl ?_
                  refine e_goto (t := 142) hK rfl (by decide) ?_
                  refine e_step (pc' := 144) hK rfl rfl rfl ?_
                  try simp only [List.set_cons_zero, List.set_cons_succ]
                  refine e_step (pc' := 146) hK rfl rfl rfl ?_
                  refine e_if (t := 165) (pc' := 149) hK rfl (by first | omega | exact bo_i _) (by decide) rfl (fun hb146 => ?_) (fun hb146 => ?_)
                  · replace hb146 := cq_ne.1.mp hb146
                    try simp only [bo_0, Bool.not_eq_false] at hb146
                    refine e_step (pc' := 167) hK rfl rfl rfl ?_
                    refine e_if (t := 175) (pc' := 170) hK rfl (by first | omega | exact bo_i _) (by decide) rfl (fun hb167 => ?_) (fun hb167 => ?_)
                    · replace hb167 := cq_eq.1.mp hb167
                      try simp only [bo_0, Bool.not_eq_false] at hb167
                      exfalso; first | omega | exact absurd trivial (by assumption) | (first | omega | exact bo_i _)
                    · replace hb167 := cq_eq.2.mp hb167
                      try simp only [bo_0, Bool.not_eq_false] at hb167
                      refine e_step (pc' := 172) hK rfl rfl rfl ?_
                      refine e_goto (t := 177) hK rfl (by decide) ?_
                      refine e_step (pc' := 179) hK rfl rfl rfl ?_
                      try simp only [List.set_cons_zero, List.set_cons_succ]
                      refine e_step (pc' := 182) hK rfl rfl rfl ?_
                      try simp only [List.set_cons_zero, List.set_cons_succ]
                      refine e_goto (t := 55) hK rfl (by decide) ?_
                      have hg : gal A t u k = true := by { rw [hgm, decide_eq_true hb84, hb105, Bool.or_true]; rfl }
                      rw [if_pos hg] at hgs
                      exact ih (k + 1) P9 _ _ _ _ ⟨by omega, by rw [hgs]; exact hd, by rw [hgs]; omega⟩
                  · replace hb146 := cq_ne.2.mp hb146
                    try simp only [bo_0, Bool.not_eq_false] at hb146
                    exfalso; first | omega | exact absurd trivial (by assumption) | (first | omega | exact bo_i _)
                · replace hb128 := cq_eq.2.mp hb128
                  try simp only [bo_0, Bool.not_eq_false] at hb128
                  refine e_step (pc' := 133) hK rfl rfl rfl ?_
                  refine e_step (pc' := 134) hK rfl rfl rfl ?_
                  refine e_icmp (t := 141) (pc' := 137) hK rfl (by first | omega | exact bo_i _) (by first | omega | exact bo_i _) (by decide) rfl (fun hb134 => ?_) (fun hb134 => ?_)
                  · replace hb134 := cq_ne.1.mp hb134
                    try simp only [bo_0, Bool.not_eq_false] at hb134
                    refine e_step (pc' := 142) hK rfl rfl rfl ?_
                    refine e_step (pc' := 144) hK rfl rfl rfl ?_
                    try simp only [List.set_cons_zero, List.set_cons_succ]
                    refine e_step (pc' := 146) hK rfl rfl rfl ?_
                    refine e_if (t := 165) (pc' := 149) hK rfl (by first | omega | exact bo_i _) (by decide) rfl (fun hb146 => ?_) (fun hb146 => ?_)
                    · replace hb146 := cq_ne.1.mp hb146
                      try simp only [bo_0, Bool.not_eq_false] at hb146
                      refine e_step (pc' := 167) hK rfl rfl rfl ?_
                      refine e_if (t := 175) (pc' := 170) hK rfl (by first | omega | exact bo_i _) (by decide) rfl (fun hb167 => ?_) (fun hb167 => ?_)
                      · replace hb167 := cq_eq.1.mp hb167
                        try simp only [bo_0, Bool.not_eq_false] at hb167
                        exfalso; first | omega | exact absurd trivial (by assumption) | (first | omega | exact bo_i _)
                      · replace hb167 := cq_eq.2.mp hb167
                        try simp only [bo_0, Bool.not_eq_false] at hb167
                        refine e_step (pc' := 172) hK rfl rfl rfl ?_
                        refine e_goto (t := 177) hK rfl (by decide) ?_
                        refine e_step (pc' := 179) hK rfl rfl rfl ?_
                        try simp only [List.set_cons_zero, List.set_cons_succ]
                        refine e_step (pc' := 182) hK rfl rfl rfl ?_
                        try simp only [List.set_cons_zero, List.set_cons_succ]
                        refine e_goto (t := 55) hK rfl (by decide) ?_
                        have hg : gal A t u k = true := by { rw [hgm, decide_eq_true hb84, hb105, Bool.or_true]; rfl }
                        rw [if_pos hg] at hgs
                        exact ih (k + 1) P9 _ _ _ _ ⟨by omega, by rw [hgs]; exact hd, by rw [hgs]; omega⟩
                    · replace hb146 := cq_ne.2.mp hb146
                      try simp only [bo_0, Bool.not_eq_false] at hb146
                      exfalso; first | omega | exact absurd trivial (by assumption) | (first | omega | exact bo_i _)
                  · replace hb134 := cq_ne.2.mp hb134
                    try simp only [bo_0, Bool.not_eq_false] at hb134
                    refine e_step (pc' := 138) hK rfl rfl rfl ?_
                    refine e_goto (t := 142) hK rfl (by decide) ?_
                    refine e_step (pc' := 144) hK rfl rfl rfl ?_
                    try simp only [List.set_cons_zero, List.set_cons_succ]
                    refine e_step (pc' := 146) hK rfl rfl rfl ?_
                    refine e_if (t := 165) (pc' := 149) hK rfl (by first | omega | exact bo_i _) (by decide) rfl (fun hb146 => ?_) (fun hb146 => ?_)
                    · replace hb146 := cq_ne.1.mp hb146
                      try simp only [bo_0, Bool.not_eq_false] at hb146
                      refine e_step (pc' := 167) hK rfl rfl rfl ?_
                      refine e_if (t := 175) (pc' := 170) hK rfl (by first | omega | exact bo_i _) (by decide) rfl (fun hb167 => ?_) (fun hb167 => ?_)
                      · replace hb167 := cq_eq.1.mp hb167
                        try simp only [bo_0, Bool.not_eq_false] at hb167
                        exfalso; first | omega | exact absurd trivial (by assumption) | (first | omega | exact bo_i _)
                      · replace hb167 := cq_eq.2.mp hb167
                        try simp only [bo_0, Bool.not_eq_false] at hb167
                        refine e_step (pc' := 172) hK rfl rfl rfl ?_
                        refine e_goto (t := 177) hK rfl (by decide) ?_
                        refine e_step (pc' := 179) hK rfl rfl rfl ?_
                        try simp only [List.set_cons_zero, List.set_cons_succ]
                        refine e_step (pc' := 182) hK rfl rfl rfl ?_
                        try simp only [List.set_cons_zero, List.set_cons_succ]
                        refine e_goto (t := 55) hK rfl (by decide) ?_
                        have hg : gal A t u k = true := by { rw [hgm, decide_eq_true hb84, hb105, Bool.or_true]; rfl }
                        rw [if_pos hg] at hgs
                        exact ih (k + 1) P9 _ _ _ _ ⟨by omega, by rw [hgs]; exact hd, by rw [hgs]; omega⟩
                    · replace hb146 := cq_ne.2.mp hb146
                      try simp only [bo_0, Bool.not_eq_false] at hb146
                      exfalso; first | omega | exact absurd trivial (by assumption) | (first | omega | exact bo_i _)
set_option maxRecDepth 10000 in
theorem m_parts (a : Int) (ha : 266 ≤ a ∧ a ≤ 268) {A : lg} (hR : Rw (v a) A) (hI : gI A) (t u : Int) (h0 : 0 ≤ t) (h1 : t < gT A) (h2 : 0 ≤ u) (h3 : u < gT A) : mv_Cl sc q_Mod_partsAt [(2, 264), (2, a), (0, t), (0, u)] c (mH h v) (mv_Ms h v (mpr A t u) c) := by
  have b1 := hI.1
  have b2 := hI.2.1
  have r0 := hR.1
  have r1 := hR.2.1
  have g1 := gfi_b hI h0 h1
  have g2 := gfi_b hI h2 h3
  have gl1 := gI_l hI g1.1 g1.2.1 g1.2.2.1
  have gl2 := gI_l hI g2.1 g2.2.1 g2.2.2.1
  have b3 := xn_b (gSok hI h0 h1)
  have b4 := xn_b (gSok hI h2 h3)
  have rt : v a (1052 + 13 * t) = xn (gs A t) := by { rw [gs_S h0 h1]; exact (hR.2.2.2 t h0 h1).1 }
  have ru : v a (1052 + 13 * u) = xn (gs A u) := by { rw [gs_S h2 h3]; exact (hR.2.2.2 u h2 h3).1 }
  show mv_Ev sc 162 0 [(2, 264), (2, a), (0, t), (0, u), (5, 0), (5, 0), (5, 0), (5, 0), (5, 0), (5, 0), (5, 0)] [] c (mH h v) _
  have hK : (mv_m 162).1 = kc_Mod_partsAt := rfl
  refine e_step (pc' := 1) hK rfl rfl rfl ?_
  refine e_step (pc' := 2) hK rfl rfl rfl ?_
  refine e_cRS1 (z := 119) (pc' := 5) hK rfl rfl rfl (Nat.le_of_ble_eq_true rfl) (Nat.le_of_ble_eq_true rfl) (m_tempAt t) (by decide) rfl ?_
  try simp (disch := omega) only [mH_t64, mH_r1, mH_r3, mH_r4, mH_r5, mH_r6, mH_r8, mH_r9, mH_r10, mH_r11, mH_r12, mH_r14, mH_i0, mH_i2, mH_i7, mH_i13, mH_i15, mH_t71, mH_t, mH_lr, mH_l65, mH_l69, mH_l70, mH_l71, mH_l72, mH_l73, mH_l74, mH_l75, mH_c, rt, ru]
  refine e_iald (pc' := 6) hK rfl (by simp (disch := omega) only [mH_t64, mH_r1, mH_r3, mH_r4, mH_r5, mH_r6, mH_r8, mH_r9, mH_r10, mH_r11, mH_r12, mH_r14, mH_i0, mH_i2, mH_i7, mH_i13, mH_i15, mH_t71, mH_t, mH_lr, mH_l65, mH_l69, mH_l70, mH_l71, mH_l72, mH_l73, mH_l74, mH_l75, mH_c, rt, ru]) (by omega) (by (try simp (disch := omega) only [mH_t64, mH_r1, mH_r3, mH_r4, mH_r5, mH_r6, mH_r8, mH_r9, mH_r10, mH_r11, mH_r12, mH_r14, mH_i0, mH_i2, mH_i7, mH_i13, mH_i15, mH_t71, mH_t, mH_lr, mH_l65, mH_l69, mH_l70, mH_l71, mH_l72, mH_l73, mH_l74, mH_l75, mH_c, rt, ru]); omega) rfl ?_
  try simp (disch := omega) only [mH_t64, mH_r1, mH_r3, mH_r4, mH_r5, mH_r6, mH_r8, mH_r9, mH_r10, mH_r11, mH_r12, mH_r14, mH_i0, mH_i2, mH_i7, mH_i13, mH_i15, mH_t71, mH_t, mH_lr, mH_l65, mH_l69, mH_l70, mH_l71, mH_l72, mH_l73, mH_l74, mH_l75, mH_c, rt, ru]
  refine e_step (pc' := 8) hK rfl rfl rfl ?_
  try simp only [List.set_cons_zero, List.set_cons_succ]
  refine e_step (pc' := 10) hK rfl rfl rfl ?_
  refine e_step (pc' := 11) hK rfl rfl rfl ?_
  refine e_step (pc' := 12) hK rfl rfl rfl ?_
  refine e_cRS1 (z := 119) (pc' := 15) hK rfl rfl rfl (Nat.le_of_ble_eq_true rfl) (Nat.le_of_ble_eq_true rfl) (m_tempAt u) (by decide) rfl ?_
  try simp (disch := omega) only [mH_t64, mH_r1, mH_r3, mH_r4, mH_r5, mH_r6, mH_r8, mH_r9, mH_r10, mH_r11, mH_r12, mH_r14, mH_i0, mH_i2, mH_i7, mH_i13, mH_i15, mH_t71, mH_t, mH_lr, mH_l65, mH_l69, mH_l70, mH_l71, mH_l72, mH_l73, mH_l74, mH_l75, mH_c, rt, ru]
  refine e_iald (pc' := 16) hK rfl (by simp (disch := omega) only [mH_t64, mH_r1, mH_r3, mH_r4, mH_r5, mH_r6, mH_r8, mH_r9, mH_r10, mH_r11, mH_r12, mH_r14, mH_i0, mH_i2, mH_i7, mH_i13, mH_i15, mH_t71, mH_t, mH_lr, mH_l65, mH_l69, mH_l70, mH_l71, mH_l72, mH_l73, mH_l74, mH_l75, mH_c, rt, ru]) (by omega) (by (try simp (disch := omega) only [mH_t64, mH_r1, mH_r3, mH_r4, mH_r5, mH_r6, mH_r8, mH_r9, mH_r10, mH_r11, mH_r12, mH_r14, mH_i0, mH_i2, mH_i7, mH_i13, mH_i15, mH_t71, mH_t, mH_lr, mH_l65, mH_l69, mH_l70, mH_l71, mH_l72, mH_l73, mH_l74, mH_l75, mH_c, rt, ru]); omega) rfl ?_
  try simp (disch := omega) only [mH_t64, mH_r1, mH_r3, mH_r4, mH_r5, mH_r6, mH_r8, mH_r9, mH_r10, mH_r11, mH_r12, mH_r14, mH_i0, mH_i2, mH_i7, mH_i13, mH_i15, mH_t71, mH_t, mH_lr, mH_l65, mH_l69, mH_l70, mH_l71, mH_l72, mH_l73, mH_l74, mH_l75, mH_c, rt, ru]
  refine e_icmp (t := 23) (pc' := 19) hK rfl (by omega) (by omega) (by decide) rfl (fun hb16 => ?_) (fun hb16 => ?_)
  · replace hb16 := cq_eq.1.mp hb16
    refine e_step (pc' := 24) hK rfl rfl rfl ?_
    refine e_step (pc' := 25) hK rfl rfl rfl ?_
    refine e_step (pc' := 26) hK rfl rfl rfl ?_
    refine e_step (pc' := 27) hK rfl rfl rfl ?_
    refine e_cRS2 (z := 129) (pc' := 30) hK rfl rfl rfl (Nat.le_of_ble_eq_true rfl) (Nat.le_of_ble_eq_true rfl) (m_first a ha hR hI t h0 h1) (by decide) rfl ?_
    try simp (disch := omega) only [mH_t64, mH_r1, mH_r3, mH_r4, mH_r5, mH_r6, mH_r8, mH_r9, mH_r10, mH_r11, mH_r12, mH_r14, mH_i0, mH_i2, mH_i7, mH_i13, mH_i15, mH_t71, mH_t, mH_lr, mH_l65, mH_l69, mH_l70, mH_l71, mH_l72, mH_l73, mH_l74, mH_l75, mH_c, rt, ru]
    refine e_step (pc' := 31) hK rfl rfl rfl ?_
    refine e_cQV4 (z := 123) hK rfl rfl (by first | (simp (disch := omega) only [mH_t64, mH_r1, mH_r3, mH_r4, mH_r5, mH_r6, mH_r8, mH_r9, mH_r10, mH_r11, mH_r12, mH_r14, mH_i0, mH_i2, mH_i7, mH_i13, mH_i15, mH_t71, mH_t, mH_lr, mH_l65, mH_l69, mH_l70, mH_l71, mH_l72, mH_l73, mH_l74, mH_l75, mH_c, rt, ru]; rfl) | (show _ = 2; assumption) | (show _ = 1; assumption) | (show _ = 0; assumption) | (show _ = 3; assumption) | (show _ = 4; assumption)) rfl (Nat.le_of_ble_eq_true rfl) (Nat.le_of_ble_eq_true rfl) (m_cut a ha (gfi A t) 0 ⟨by omega, by omega⟩ (Or.inl rfl) gl1.2.2.1 (hR.2.2.1 _ g1.1 g1.2.1).1) ?_
    rintro _ _ _ ⟨rfl, rfl, w, rfl, hw, kw⟩
    refine ⟨by show (0 : Nat) ≠ 4; decide, ?_⟩
    rw [if_neg (by show ¬ (0 : Nat) = 3; decide)]
    try dsimp only
    have ew : w a = v a := hw.1 a (by omega) (by omega) (by omega)
    show mv_Ev _ _ 34 _ _ _ _ _
    refine e_step (pc' := 35) hK rfl rfl rfl ?_
    refine e_step (pc' := 36) hK rfl rfl rfl ?_
    refine e_step (pc' := 37) hK rfl rfl rfl ?_
    refine e_step (pc' := 38) hK rfl rfl rfl ?_
    refine e_step (pc' := 39) hK rfl rfl rfl ?_
    refine e_cRS2 (z := 129) (pc' := 42) hK rfl rfl rfl (Nat.le_of_ble_eq_true rfl) (Nat.le_of_ble_eq_true rfl) (m_first a ha (by rw [ew]; exact hR) hI u h2 h3) (by decide) rfl ?_
    try simp (disch := omega) only [mH_t64, mH_r1, mH_r3, mH_r4, mH_r5, mH_r6, mH_r8, mH_r9, mH_r10, mH_r11, mH_r12, mH_r14, mH_i0, mH_i2, mH_i7, mH_i13, mH_i15, mH_t71, mH_t, mH_lr, mH_l65, mH_l69, mH_l70, mH_l71, mH_l72, mH_l73, mH_l74, mH_l75, mH_c, rt, ru]
    refine e_step (pc' := 44) hK rfl rfl rfl ?_
    refine e_cQV4 (z := 123) hK rfl rfl (by first | (simp (disch := omega) only [mH_t64, mH_r1, mH_r3, mH_r4, mH_r5, mH_r6, mH_r8, mH_r9, mH_r10, mH_r11, mH_r12, mH_r14, mH_i0, mH_i2, mH_i7, mH_i13, mH_i15, mH_t71, mH_t, mH_lr, mH_l65, mH_l69, mH_l70, mH_l71, mH_l72, mH_l73, mH_l74, mH_l75, mH_c, rt, ru]; rfl) | (show _ = 2; assumption) | (show _ = 1; assumption) | (show _ = 0; assumption) | (show _ = 3; assumption) | (show _ = 4; assumption)) rfl (Nat.le_of_ble_eq_true rfl) (Nat.le_of_ble_eq_true rfl) (m_cut a ha (gfi A u) 12 ⟨by omega, by omega⟩ (Or.inr rfl) gl2.2.2.1 (by rw [ew]; exact (hR.2.2.1 _ g2.1 g2.2.1).1)) ?_
    rintro _ _ _ ⟨rfl, rfl, s, rfl, hs, ks⟩
    refine ⟨by show (0 : Nat) ≠ 4; decide, ?_⟩
    rw [if_neg (by show ¬ (0 : Nat) = 3; decide)]
    try dsimp only
    have es : s a = v a := (hs.1 a (by omega) (by omega) (by omega)).trans ew
    show mv_Ev _ _ 47 _ _ _ _ _
    refine e_step (pc' := 48) hK rfl rfl rfl ?_
    refine e_step (pc' := 50) hK rfl rfl rfl ?_
    refine e_step (pc' := 52) hK rfl rfl rfl ?_
    try simp only [List.set_cons_zero, List.set_cons_succ]
    refine e_step (pc' := 53) hK rfl rfl rfl ?_
    refine e_step (pc' := 55) hK rfl rfl rfl ?_
    try simp only [List.set_cons_zero, List.set_cons_succ]
    refine Ms_of (m_parts1 a ha (by rw [es]; exact hR) hI t u h0 h1 h2 h3 hb16 (fun p p0 p1 => ?_) (fun p p0 p1 => ?_) (xn (gs A t)).toNat 0 (xn (gs A t)) _ _ _ _ ⟨by omega, by show (-1 : Int) ≠ -9999; omega, Or.inl ⟨rfl, rfl⟩⟩) (ms_t hw.1 hs.1)
    · rw [es]; exact Pc_of (o := 0) (Ct_fr kw hs (by omega) (by show xn (gL A (gfi A t)) ≤ 12; omega)) (hR.2.2.1 _ g1.1 g1.2.1).1 ⟨by omega, by omega⟩ gl1.2.2.1 (Or.inl rfl) p0 (by omega) (by omega)
    · rw [es]; exact Pc_of (o := 12) ks (hR.2.2.1 _ g2.1 g2.2.1).1 ⟨by omega, by omega⟩ gl2.2.2.1 (Or.inr rfl) p0 (by omega) rfl
  · replace hb16 := cq_eq.2.mp hb16
    refine e_step (pc' := 22) hK rfl rfl rfl ?_
    refine e_ret hK rfl rfl rfl ?_
    refine ⟨?_, rfl, v, rfl, ms_r v⟩
    rw [show mpr A t u = -9999 from by { unfold mpr god; rw [if_neg hb16]; rfl }]
set_option maxRecDepth 10000 in
theorem m_learnM (a : Int) (ha : 266 ≤ a ∧ a ≤ 268) {A : lg} (hI : gI A) (t u : Int) (h0 : 0 ≤ t) (h1 : t < u) (h2 : u < gT A) (hd : god A t u ≠ -9999) {v0 v : mvt} (hm : mo a v0 v) (hR : Rw (v a) (gopen A t (god A t u))) (q4 : Int) : ∀ (m : Nat) (i : Nat) (w : mvt), (i + m = gn A ∧ mq a v w ∧ w a 0 = gn A ∧ (∀ r : Int, (∀ i : Int, 0 ≤ i → i < gn A → r ≠ 2 + 42 * i + 1) → w a r = v a r) ∧ ∀ k : Int, 0 ≤ k → k < gn A → w a (2 + 42 * k + 1) = if k < i then (if gP (gopen A t (god A t u)) k = u then t else gP (gopen A t (god A t u)) k) else gP (gopen A t (god A t u)) k) → mv_Ev sc 161 63 [(2, 264), (2, a), (0, t), (0, u), (0, q4), (0, (i : Int))] [] c (mH h w) (fun r c' h' => r = (0, 100 * t + u) ∧ c' = c ∧ ∃ w, h' = mH h w ∧ mo a v0 w ∧ Rw (w a) (gmove (gopen A t (god A t u)) u t)) := by
  intro m
  induction m with
  | zero =>
    intro i w ⟨hi, hw, w0, g1, g2⟩
    obtain ⟨hB, hJ, -⟩ := gI_pair hI h0 h1 h2 hd
    obtain ⟨e1, e2, -⟩ := gop_same (A := A) (t := t) (q := god A t u)
    have b1 := hI.1
    have b2 := hI.2.1
    have r0 : v a 0 = gn A := by { rw [hR.1, e1] }
    have eP := fun (k : Int) (k0 : 0 ≤ k) (k1 : k < gn A) => (hR.2.2.1 k k0 (by rw [e1]; exact k1)).2
    have hK : (mv_m 161).1 = kc_Mod_learnOn := rfl
    refine e_step (pc' := 65) hK rfl rfl rfl ?_
    refine e_step (pc' := 66) hK rfl rfl rfl ?_
    refine e_step (pc' := 67) hK rfl rfl rfl ?_
    refine e_iald (pc' := 68) hK rfl (by simp (disch := omega) only [mH_t64, mH_r1, mH_r3, mH_r4, mH_r5, mH_r6, mH_r8, mH_r9, mH_r10, mH_r11, mH_r12, mH_r14, mH_i0, mH_i2, mH_i7, mH_i13, mH_i15, mH_t71, mH_t, mH_lr, mH_l65, mH_l69, mH_l70, mH_l71, mH_l72, mH_l73, mH_l74, mH_l75, mH_c, w0]) (by omega) (by (try simp (disch := omega) only [mH_t64, mH_r1, mH_r3, mH_r4, mH_r5, mH_r6, mH_r8, mH_r9, mH_r10, mH_r11, mH_r12, mH_r14, mH_i0, mH_i2, mH_i7, mH_i13, mH_i15, mH_t71, mH_t, mH_lr, mH_l65, mH_l69, mH_l70, mH_l71, mH_l72, mH_l73, mH_l74, mH_l75, mH_c, w0]); omega) rfl ?_
    try simp (disch := omega) only [mH_t64, mH_r1, mH_r3, mH_r4, mH_r5, mH_r6, mH_r8, mH_r9, mH_r10, mH_r11, mH_r12, mH_r14, mH_i0, mH_i2, mH_i7, mH_i13, mH_i15, mH_t71, mH_t, mH_lr, mH_l65, mH_l69, mH_l70, mH_l71, mH_l72, mH_l73, mH_l74, mH_l75, mH_c, w0]
    refine e_icmp (t := 112) (pc' := 71) hK rfl (by omega) (by omega) (by decide) rfl (fun hb68 => ?_) (fun hb68 => ?_)
    · replace hb68 := cq_ge.1.mp hb68
      refine e_step (pc' := 113) hK rfl rfl rfl ?_
      refine e_step (pc' := 114) hK rfl rfl rfl ?_
      refine e_cQS2 (z := 159) hK rfl rfl rfl (Nat.le_of_ble_eq_true rfl) (Nat.le_of_ble_eq_true rfl) (m_cutT (A := gmv (gopen A t (god A t u)) u t) a ha (Rw_mv hR hB (fun r hr => g1 r (fun i i0 i1 => hr i i0 (by rw [e1]; exact i1))) (fun i i0 i1 => by { rw [e1] at i1; rw [g2 i i0 i1, if_pos (by omega)] })) hJ u (by omega) (by show u < gT (gopen A t (god A t u)); rw [e2]; exact h2)) ?_
      rintro _ _ _ ⟨rfl, rfl, s, rfl, hs, rs⟩
      refine ⟨by decide, ?_⟩
      rw [if_pos rfl]
      try dsimp only
      show mv_Ev _ _ 117 _ _ _ _ _
      refine e_step (pc' := 119) hK rfl rfl rfl ?_
      refine e_step (pc' := 120) hK rfl rfl rfl ?_
      refine e_step (pc' := 121) hK rfl rfl rfl ?_
      refine e_step (pc' := 122) hK rfl rfl rfl ?_
      refine e_step (pc' := 123) hK rfl rfl rfl ?_
      refine e_ret hK rfl rfl rfl ?_
      exact ⟨rfl, rfl, s, rfl, mo_t hm (mq_o (fun b hb => (hs b hb).trans (hw b hb))), rs⟩
    · replace hb68 := cq_ge.2.mp hb68
      exfalso; first | omega | exact absurd trivial (by assumption)
  | succ m ih =>
    intro i w ⟨hi, hw, w0, g1, g2⟩
    obtain ⟨hB, hJ, -⟩ := gI_pair hI h0 h1 h2 hd
    obtain ⟨e1, e2, -⟩ := gop_same (A := A) (t := t) (q := god A t u)
    have b1 := hI.1
    have b2 := hI.2.1
    have r0 : v a 0 = gn A := by { rw [hR.1, e1] }
    have eP := fun (k : Int) (k0 : 0 ≤ k) (k1 : k < gn A) => (hR.2.2.1 k k0 (by rw [e1]; exact k1)).2
    have hK : (mv_m 161).1 = kc_Mod_learnOn := rfl
    refine e_step (pc' := 65) hK rfl rfl rfl ?_
    refine e_step (pc' := 66) hK rfl rfl rfl ?_
    refine e_step (pc' := 67) hK rfl rfl rfl ?_
    refine e_iald (pc' := 68) hK rfl (by simp (disch := omega) only [mH_t64, mH_r1, mH_r3, mH_r4, mH_r5, mH_r6, mH_r8, mH_r9, mH_r10, mH_r11, mH_r12, mH_r14, mH_i0, mH_i2, mH_i7, mH_i13, mH_i15, mH_t71, mH_t, mH_lr, mH_l65, mH_l69, mH_l70, mH_l71, mH_l72, mH_l73, mH_l74, mH_l75, mH_c, w0]) (by omega) (by (try simp (disch := omega) only [mH_t64, mH_r1, mH_r3, mH_r4, mH_r5, mH_r6, mH_r8, mH_r9, mH_r10, mH_r11, mH_r12, mH_r14, mH_i0, mH_i2, mH_i7, mH_i13, mH_i15, mH_t71, mH_t, mH_lr, mH_l65, mH_l69, mH_l70, mH_l71, mH_l72, mH_l73, mH_l74, mH_l75, mH_c, w0]); omega) rfl ?_
    try simp (disch := omega) only [mH_t64, mH_r1, mH_r3, mH_r4, mH_r5, mH_r6, mH_r8, mH_r9, mH_r10, mH_r11, mH_r12, mH_r14, mH_i0, mH_i2, mH_i7, mH_i13, mH_i15, mH_t71, mH_t, mH_lr, mH_l65, mH_l69, mH_l70, mH_l71, mH_l72, mH_l73, mH_l74, mH_l75, mH_c, w0]
    refine e_icmp (t := 112) (pc' := 71) hK rfl (by omega) (by omega) (by decide) rfl (fun hb68 => ?_) (fun hb68 => ?_)
    · replace hb68 := cq_ge.1.mp hb68
      exfalso; first | omega | exact absurd trivial (by assumption)
    · replace hb68 := cq_ge.2.mp hb68
      have gj := g2 i (by omega) (by omega)
      rw [if_neg (by omega)] at gj
      have gb := hB.2.2.1 i (by omega) (by rw [e1]; omega)
      rw [e2] at gb
      refine e_step (pc' := 72) hK rfl rfl rfl ?_
      refine e_step (pc' := 74) hK rfl rfl rfl ?_
      refine e_cRS1 (z := 116) (pc' := 77) hK rfl rfl rfl (Nat.le_of_ble_eq_true rfl) (Nat.le_of_ble_eq_true rfl) (m_lineAt (i : Int)) (by decide) rfl ?_
      try simp (disch := omega) only [mH_t64, mH_r1, mH_r3, mH_r4, mH_r5, mH_r6, mH_r8, mH_r9, mH_r10, mH_r11, mH_r12, mH_r14, mH_i0, mH_i2, mH_i7, mH_i13, mH_i15, mH_t71, mH_t, mH_lr, mH_l65, mH_l69, mH_l70, mH_l71, mH_l72, mH_l73, mH_l74, mH_l75, mH_c, w0, gj]
      refine e_step (pc' := 78) hK rfl rfl rfl ?_
      refine e_step (pc' := 79) hK rfl rfl rfl ?_
      refine e_step (pc' := 80) hK rfl rfl rfl ?_
      refine e_step (pc' := 82) hK rfl rfl rfl ?_
      refine e_cRS1 (z := 116) (pc' := 85) hK rfl rfl rfl (Nat.le_of_ble_eq_true rfl) (Nat.le_of_ble_eq_true rfl) (m_lineAt (i : Int)) (by decide) rfl ?_
      try simp (disch := omega) only [mH_t64, mH_r1, mH_r3, mH_r4, mH_r5, mH_r6, mH_r8, mH_r9, mH_r10, mH_r11, mH_r12, mH_r14, mH_i0, mH_i2, mH_i7, mH_i13, mH_i15, mH_t71, mH_t, mH_lr, mH_l65, mH_l69, mH_l70, mH_l71, mH_l72, mH_l73, mH_l74, mH_l75, mH_c, w0, gj]
      refine e_step (pc' := 86) hK rfl rfl rfl ?_
      refine e_step (pc' := 87) hK rfl rfl rfl ?_
      refine e_iald (pc' := 88) hK rfl (by simp (disch := omega) only [mH_t64, mH_r1, mH_r3, mH_r4, mH_r5, mH_r6, mH_r8, mH_r9, mH_r10, mH_r11, mH_r12, mH_r14, mH_i0, mH_i2, mH_i7, mH_i13, mH_i15, mH_t71, mH_t, mH_lr, mH_l65, mH_l69, mH_l70, mH_l71, mH_l72, mH_l73, mH_l74, mH_l75, mH_c, w0, gj]) (by omega) (by (try simp (disch := omega) only [mH_t64, mH_r1, mH_r3, mH_r4, mH_r5, mH_r6, mH_r8, mH_r9, mH_r10, mH_r11, mH_r12, mH_r14, mH_i0, mH_i2, mH_i7, mH_i13, mH_i15, mH_t71, mH_t, mH_lr, mH_l65, mH_l69, mH_l70, mH_l71, mH_l72, mH_l73, mH_l74, mH_l75, mH_c, w0, gj]); omega) rfl ?_
      try simp (disch := omega) only [mH_t64, mH_r1, mH_r3, mH_r4, mH_r5, mH_r6, mH_r8, mH_r9, mH_r10, mH_r11, mH_r12, mH_r14, mH_i0, mH_i2, mH_i7, mH_i13, mH_i15, mH_t71, mH_t, mH_lr, mH_l65, mH_l69, mH_l70, mH_l71, mH_l72, mH_l73, mH_l74, mH_l75, mH_c, w0, gj]
      refine e_step (pc' := 89) hK rfl rfl rfl ?_
      refine e_icmp (t := 96) (pc' := 92) hK rfl (by omega) (by omega) (by decide) rfl (fun hb89 => ?_) (fun hb89 => ?_)
      · replace hb89 := cq_ne.1.mp hb89
        refine e_step (pc' := 97) hK rfl rfl rfl ?_
        refine e_step (pc' := 99) hK rfl rfl rfl ?_
        refine e_cRS1 (z := 116) (pc' := 102) hK rfl rfl rfl (Nat.le_of_ble_eq_true rfl) (Nat.le_of_ble_eq_true rfl) (m_lineAt (i : Int)) (by decide) rfl ?_
        try simp (disch := omega) only [mH_t64, mH_r1, mH_r3, mH_r4, mH_r5, mH_r6, mH_r8, mH_r9, mH_r10, mH_r11, mH_r12, mH_r14, mH_i0, mH_i2, mH_i7, mH_i13, mH_i15, mH_t71, mH_t, mH_lr, mH_l65, mH_l69, mH_l70, mH_l71, mH_l72, mH_l73, mH_l74, mH_l75, mH_c, w0, gj]
        refine e_step (pc' := 103) hK rfl rfl rfl ?_
        refine e_step (pc' := 104) hK rfl rfl rfl ?_
        refine e_iald (pc' := 105) hK rfl (by simp (disch := omega) only [mH_t64, mH_r1, mH_r3, mH_r4, mH_r5, mH_r6, mH_r8, mH_r9, mH_r10, mH_r11, mH_r12, mH_r14, mH_i0, mH_i2, mH_i7, mH_i13, mH_i15, mH_t71, mH_t, mH_lr, mH_l65, mH_l69, mH_l70, mH_l71, mH_l72, mH_l73, mH_l74, mH_l75, mH_c, w0, gj]) (by omega) (by (try simp (disch := omega) only [mH_t64, mH_r1, mH_r3, mH_r4, mH_r5, mH_r6, mH_r8, mH_r9, mH_r10, mH_r11, mH_r12, mH_r14, mH_i0, mH_i2, mH_i7, mH_i13, mH_i15, mH_t71, mH_t, mH_lr, mH_l65, mH_l69, mH_l70, mH_l71, mH_l72, mH_l73, mH_l74, mH_l75, mH_c, w0, gj]); omega) rfl ?_
        try simp (disch := omega) only [mH_t64, mH_r1, mH_r3, mH_r4, mH_r5, mH_r6, mH_r8, mH_r9, mH_r10, mH_r11, mH_r12, mH_r14, mH_i0, mH_i2, mH_i7, mH_i13, mH_i15, mH_t71, mH_t, mH_lr, mH_l65, mH_l69, mH_l70, mH_l71, mH_l72, mH_l73, mH_l74, mH_l75, mH_c, w0, gj]
        refine e_iast (pc' := 106) hK rfl (by simp (disch := omega) only [mH_t64, mH_r1, mH_r3, mH_r4, mH_r5, mH_r6, mH_r8, mH_r9, mH_r10, mH_r11, mH_r12, mH_r14, mH_i0, mH_i2, mH_i7, mH_i13, mH_i15, mH_t71, mH_t, mH_lr, mH_l65, mH_l69, mH_l70, mH_l71, mH_l72, mH_l73, mH_l74, mH_l75, mH_c, w0, gj]) (by omega) (by (try simp (disch := omega) only [mH_t64, mH_r1, mH_r3, mH_r4, mH_r5, mH_r6, mH_r8, mH_r9, mH_r10, mH_r11, mH_r12, mH_r14, mH_i0, mH_i2, mH_i7, mH_i13, mH_i15, mH_t71, mH_t, mH_lr, mH_l65, mH_l69, mH_l70, mH_l71, mH_l72, mH_l73, mH_l74, mH_l75, mH_c, w0, gj]); omega) rfl ?_
        simp (disch := omega) only [mW_0, mW_2, mW_7, mW_13, mW_15, mW_a, gu_s]
        refine e_step (pc' := 109) hK rfl rfl rfl ?_
        try simp only [List.set_cons_zero, List.set_cons_succ]
        refine e_goto (t := 63) hK rfl (by decide) ?_
        refine ih (i + 1) _ ⟨by omega, fun b n1 => by rw [gu_n n1]; exact hw b n1, ?_, fun r hr => ?_, fun k k0 k1 => ?_⟩
        · rw [gu_s, up_n (by omega)]; exact w0
        · rw [gu_s, up_n (hr i (by omega) (by omega))]; exact g1 r hr
        · rw [gu_s]
          by_cases e : k = i
          · rw [e, up_s, if_pos (by omega), if_neg hb89]
          · rw [up_n (by omega), g2 k k0 k1]
            by_cases e9 : k < i
            · rw [if_pos e9, if_pos (show k < ((i + 1 : Nat) : Int) by omega)]
            · rw [if_neg e9, if_neg (show ¬ k < ((i + 1 : Nat) : Int) by omega)]
      · replace hb89 := cq_ne.2.mp hb89
        refine e_step (pc' := 93) hK rfl rfl rfl ?_
        refine e_goto (t := 105) hK rfl (by decide) ?_
        refine e_iast (pc' := 106) hK rfl (by simp (disch := omega) only [mH_t64, mH_r1, mH_r3, mH_r4, mH_r5, mH_r6, mH_r8, mH_r9, mH_r10, mH_r11, mH_r12, mH_r14, mH_i0, mH_i2, mH_i7, mH_i13, mH_i15, mH_t71, mH_t, mH_lr, mH_l65, mH_l69, mH_l70, mH_l71, mH_l72, mH_l73, mH_l74, mH_l75, mH_c, w0, gj]) (by omega) (by (try simp (disch := omega) only [mH_t64, mH_r1, mH_r3, mH_r4, mH_r5, mH_r6, mH_r8, mH_r9, mH_r10, mH_r11, mH_r12, mH_r14, mH_i0, mH_i2, mH_i7, mH_i13, mH_i15, mH_t71, mH_t, mH_lr, mH_l65, mH_l69, mH_l70, mH_l71, mH_l72, mH_l73, mH_l74, mH_l75, mH_c, w0, gj]); omega) rfl ?_
        simp (disch := omega) only [mW_0, mW_2, mW_7, mW_13, mW_15, mW_a, gu_s]
        refine e_step (pc' := 109) hK rfl rfl rfl ?_
        try simp only [List.set_cons_zero, List.set_cons_succ]
        refine e_goto (t := 63) hK rfl (by decide) ?_
        refine ih (i + 1) _ ⟨by omega, fun b n1 => by rw [gu_n n1]; exact hw b n1, ?_, fun r hr => ?_, fun k k0 k1 => ?_⟩
        · rw [gu_s, up_n (by omega)]; exact w0
        · rw [gu_s, up_n (hr i (by omega) (by omega))]; exact g1 r hr
        · rw [gu_s]
          by_cases e : k = i
          · rw [e, up_s, if_pos (by omega), if_pos hb89]
          · rw [up_n (by omega), g2 k k0 k1]
            by_cases e9 : k < i
            · rw [if_pos e9, if_pos (show k < ((i + 1 : Nat) : Int) by omega)]
            · rw [if_neg e9, if_neg (show ¬ k < ((i + 1 : Nat) : Int) by omega)]
set_option maxRecDepth 10000 in
theorem m_learnI (a : Int) (ha : 266 ≤ a ∧ a ≤ 268) {A : lg} (hR : Rw (v a) A) (hI : gI A) (t : Nat) (ht : (t : Int) < gT A) (hf : lf (fun t => decide (glq A t ≠ -9999)) t = -9999) (K : glq A (t : Int) = -9999 → ∀ (w : mvt) (a3 a4 a5 : mv_V), ms v w → mv_Ev sc 161 130 [(2, 264), (2, a), (0, (t : Int)), a3, a4, a5] [] c (mH h w) (fun r c' h' => r = (0, glv A) ∧ c' = c ∧ ∃ w, h' = mH h w ∧ mo a v w ∧ Rw (w a) (gle A))) : ∀ (m : Nat) (u : Nat) (w : mvt) (a4 a5 : mv_V), (u + m = gT A ∧ (t : Int) < u ∧ lf (fun u => decide ((t : Int) < u) && decide (god A t u ≠ -9999)) u = -9999 ∧ ms v w) → mv_Ev sc 161 13 [(2, 264), (2, a), (0, (t : Int)), (0, (u : Int)), a4, a5] [] c (mH h w) (fun r c' h' => r = (0, glv A) ∧ c' = c ∧ ∃ w, h' = mH h w ∧ mo a v w ∧ Rw (w a) (gle A)) := by
  intro m
  induction m with
  | zero =>
    intro u w a4 a5 ⟨hu, htu, hl, hw⟩
    have b1 := hI.1
    have b2 := hI.2.1
    have r0 := hR.1
    have r1 := hR.2.1
    have ew : w a = v a := hw a (by omega) (by omega) (by omega)
    have r1w : w a 1 = gT A := by { rw [ew]; exact r1 }
    have b3 := xn_b (gSok hI (show (0 : Int) ≤ t by omega) ht)
    have rt0 : v a (1052 + 13 * (t : Int)) = xn (gs A (t : Int)) := by { rw [gs_S (by omega) ht]; exact (hR.2.2.2 (t : Int) (by omega) ht).1 }
    have rt : w a (1052 + 13 * (t : Int)) = xn (gs A (t : Int)) := by { rw [ew]; exact rt0 }
    have hK : (mv_m 161).1 = kc_Mod_learnOn := rfl
    refine e_step (pc' := 14) hK rfl rfl rfl ?_
    refine e_step (pc' := 15) hK rfl rfl rfl ?_
    refine e_step (pc' := 16) hK rfl rfl rfl ?_
    refine e_iald (pc' := 17) hK rfl (by simp (disch := omega) only [mH_t64, mH_r1, mH_r3, mH_r4, mH_r5, mH_r6, mH_r8, mH_r9, mH_r10, mH_r11, mH_r12, mH_r14, mH_i0, mH_i2, mH_i7, mH_i13, mH_i15, mH_t71, mH_t, mH_lr, mH_l65, mH_l69, mH_l70, mH_l71, mH_l72, mH_l73, mH_l74, mH_l75, mH_c, r1w, rt]) (by first | omega) (by (try simp (disch := omega) only [mH_t64, mH_r1, mH_r3, mH_r4, mH_r5, mH_r6, mH_r8, mH_r9, mH_r10, mH_r11, mH_r12, mH_r14, mH_i0, mH_i2, mH_i7, mH_i13, mH_i15, mH_t71, mH_t, mH_lr, mH_l65, mH_l69, mH_l70, mH_l71, mH_l72, mH_l73, mH_l74, mH_l75, mH_c, r1w, rt]); first | omega) rfl ?_
    try simp (disch := omega) only [mH_t64, mH_r1, mH_r3, mH_r4, mH_r5, mH_r6, mH_r8, mH_r9, mH_r10, mH_r11, mH_r12, mH_r14, mH_i0, mH_i2, mH_i7, mH_i13, mH_i15, mH_t71, mH_t, mH_lr, mH_l65, mH_l69, mH_l70, mH_l71, mH_l72, mH_l73, mH_l74, mH_l75, mH_c, r1w, rt]
    refine e_icmp (t := 130) (pc' := 20) hK rfl (by first | omega) (by first | omega) (by decide) rfl (fun hb17 => ?_) (fun hb17 => ?_)
    · replace hb17 := cq_ge.1.mp hb17
      have eTu : gT A = u := by omega
      exact K (by { unfold glq; rw [eTu]; exact hl }) w _ _ _ hw
    · replace hb17 := cq_ge.2.mp hb17
      exfalso; first | omega | exact absurd trivial (by assumption) | (first | omega)
  | succ m ih =>
    intro u w a4 a5 ⟨hu, htu, hl, hw⟩
    have b1 := hI.1
    have b2 := hI.2.1
    have r0 := hR.1
    have r1 := hR.2.1
    have ew : w a = v a := hw a (by omega) (by omega) (by omega)
    have r1w : w a 1 = gT A := by { rw [ew]; exact r1 }
    have b3 := xn_b (gSok hI (show (0 : Int) ≤ t by omega) ht)
    have rt0 : v a (1052 + 13 * (t : Int)) = xn (gs A (t : Int)) := by { rw [gs_S (by omega) ht]; exact (hR.2.2.2 (t : Int) (by omega) ht).1 }
    have rt : w a (1052 + 13 * (t : Int)) = xn (gs A (t : Int)) := by { rw [ew]; exact rt0 }
    have hK : (mv_m 161).1 = kc_Mod_learnOn := rfl
    refine e_step (pc' := 14) hK rfl rfl rfl ?_
    refine e_step (pc' := 15) hK rfl rfl rfl ?_
    refine e_step (pc' := 16) hK rfl rfl rfl ?_
    refine e_iald (pc' := 17) hK rfl (by simp (disch := omega) only [mH_t64, mH_r1, mH_r3, mH_r4, mH_r5, mH_r6, mH_r8, mH_r9, mH_r10, mH_r11, mH_r12, mH_r14, mH_i0, mH_i2, mH_i7, mH_i13, mH_i15, mH_t71, mH_t, mH_lr, mH_l65, mH_l69, mH_l70, mH_l71, mH_l72, mH_l73, mH_l74, mH_l75, mH_c, r1w, rt]) (by first | omega) (by (try simp (disch := omega) only [mH_t64, mH_r1, mH_r3, mH_r4, mH_r5, mH_r6, mH_r8, mH_r9, mH_r10, mH_r11, mH_r12, mH_r14, mH_i0, mH_i2, mH_i7, mH_i13, mH_i15, mH_t71, mH_t, mH_lr, mH_l65, mH_l69, mH_l70, mH_l71, mH_l72, mH_l73, mH_l74, mH_l75, mH_c, r1w, rt]); first | omega) rfl ?_
    try simp (disch := omega) only [mH_t64, mH_r1, mH_r3, mH_r4, mH_r5, mH_r6, mH_r8, mH_r9, mH_r10, mH_r11, mH_r12, mH_r14, mH_i0, mH_i2, mH_i7, mH_i13, mH_i15, mH_t71, mH_t, mH_lr, mH_l65, mH_l69, mH_l70, mH_l71, mH_l72, mH_l73, mH_l74, mH_l75, mH_c, r1w, rt]
    refine e_icmp (t := 130) (pc' := 20) hK rfl (by first | omega) (by first | omega) (by decide) rfl (fun hb17 => ?_) (fun hb17 => ?_)
    · replace hb17 := cq_ge.1.mp hb17
      exfalso; first | omega | exact absurd trivial (by assumption) | (first | omega)
    · replace hb17 := cq_ge.2.mp hb17
      refine e_step (pc' := 21) hK rfl rfl rfl ?_
      refine e_step (pc' := 22) hK rfl rfl rfl ?_
      refine e_step (pc' := 23) hK rfl rfl rfl ?_
      refine e_step (pc' := 24) hK rfl rfl rfl ?_
      refine e_cQV4 (z := 162) hK rfl rfl (by first | (simp (disch := omega) only [mH_t64, mH_r1, mH_r3, mH_r4, mH_r5, mH_r6, mH_r8, mH_r9, mH_r10, mH_r11, mH_r12, mH_r14, mH_i0, mH_i2, mH_i7, mH_i13, mH_i15, mH_t71, mH_t, mH_lr, mH_l65, mH_l69, mH_l70, mH_l71, mH_l72, mH_l73, mH_l74, mH_l75, mH_c, r1w, rt]; rfl) | (show _ = 2; assumption) | (show _ = 1; assumption) | (show _ = 0; assumption) | (show _ = 3; assumption) | (show _ = 4; assumption)) rfl (Nat.le_of_ble_eq_true rfl) (Nat.le_of_ble_eq_true rfl) (m_parts a ha (by rw [ew]; exact hR) hI (t : Int) (u : Int) (by omega) ht (by omega) (by omega)) ?_
      rintro _ _ _ ⟨rfl, rfl, s, rfl, hs⟩
      refine ⟨by show (0 : Nat) ≠ 4; decide, ?_⟩
      rw [if_neg (by show ¬ (0 : Nat) = 3; decide)]
      try dsimp only
      have es : s a = v a := (hs a (by omega) (by omega) (by omega)).trans ew
      have rs : s a (1052 + 13 * (t : Int)) = xn (gs A (t : Int)) := by { rw [es]; exact rt0 }
      have hmb := mpr_b (u := (u : Int)) hI (show (0 : Int) ≤ t by omega) ht
      show mv_Ev _ _ 27 _ _ _ _ _
      refine e_step (pc' := 29) hK rfl rfl rfl ?_
      try simp only [List.set_cons_zero, List.set_cons_succ]
      refine e_step (pc' := 31) hK rfl rfl rfl ?_
      refine e_step (pc' := 34) hK rfl rfl rfl ?_
      refine e_icmp (t := 124) (pc' := 37) hK rfl (by first | omega) (by first | omega) (by decide) rfl (fun hb34 => ?_) (fun hb34 => ?_)
      · replace hb34 := cq_eq.1.mp hb34
        refine e_step (pc' := 127) hK rfl rfl rfl ?_
        try simp only [List.set_cons_zero, List.set_cons_succ]
        refine e_goto (t := 13) hK rfl (by decide) ?_
        rw [show ((u : Int) + 1 : Int) = ((u + 1 : Nat) : Int) from rfl]
        exact ih (u + 1) s _ _ ⟨by omega, by omega, lf_s hl (by { show (decide _ && decide _) = false; rw [decide_eq_false (show ¬ god A (t : Int) (u : Int) ≠ -9999 from fun e => e (hmb.1.mp hb34)), Bool.and_false] }), ms_t hw hs⟩
      · replace hb34 := cq_eq.2.mp hb34
        have hgd : god A (t : Int) (u : Int) ≠ -9999 := fun e => hb34 (hmb.1.mpr e)
        have q1 : glq A (t : Int) = u := lf_hit (q := fun u => decide ((t : Int) < u) && decide (god A t u ≠ -9999)) hl (by { show (decide _ && decide _) = true; rw [decide_eq_true (show (t : Int) < u by omega), decide_eq_true hgd]; rfl }) (by omega)
        have q2 : glt A = t := lf_hit (q := fun t => decide (glq A t ≠ -9999)) hf (decide_eq_true (by omega)) (by omega)
        have q3 : glv A = 100 * (t : Int) + u := by { unfold glv; rw [if_neg (by omega), q2, q1] }
        have q4 : gle A = gmove (gopen A (t : Int) (god A (t : Int) (u : Int))) (u : Int) (t : Int) := by { unfold gle; rw [if_neg (by omega), q2, q1] }
        rw [q3, q4]
        refine e_step (pc' := 39) hK rfl rfl rfl ?_
        refine e_step (pc' := 40) hK rfl rfl rfl ?_
        refine e_step (pc' := 41) hK rfl rfl rfl ?_
        refine e_cRS1 (z := 119) (pc' := 44) hK rfl rfl rfl (Nat.le_of_ble_eq_true rfl) (Nat.le_of_ble_eq_true rfl) (m_tempAt (t : Int)) (by decide) rfl ?_
        try simp (disch := omega) only [mH_t64, mH_r1, mH_r3, mH_r4, mH_r5, mH_r6, mH_r8, mH_r9, mH_r10, mH_r11, mH_r12, mH_r14, mH_i0, mH_i2, mH_i7, mH_i13, mH_i15, mH_t71, mH_t, mH_lr, mH_l65, mH_l69, mH_l70, mH_l71, mH_l72, mH_l73, mH_l74, mH_l75, mH_c, r1w, rt, rs]
        refine e_iald (pc' := 45) hK rfl (by simp (disch := omega) only [mH_t64, mH_r1, mH_r3, mH_r4, mH_r5, mH_r6, mH_r8, mH_r9, mH_r10, mH_r11, mH_r12, mH_r14, mH_i0, mH_i2, mH_i7, mH_i13, mH_i15, mH_t71, mH_t, mH_lr, mH_l65, mH_l69, mH_l70, mH_l71, mH_l72, mH_l73, mH_l74, mH_l75, mH_c, r1w, rt, rs]) (by first | omega) (by (try simp (disch := omega) only [mH_t64, mH_r1, mH_r3, mH_r4, mH_r5, mH_r6, mH_r8, mH_r9, mH_r10, mH_r11, mH_r12, mH_r14, mH_i0, mH_i2, mH_i7, mH_i13, mH_i15, mH_t71, mH_t, mH_lr, mH_l65, mH_l69, mH_l70, mH_l71, mH_l72, mH_l73, mH_l74, mH_l75, mH_c, r1w, rt, rs]); first | omega) rfl ?_
        try simp (disch := omega) only [mH_t64, mH_r1, mH_r3, mH_r4, mH_r5, mH_r6, mH_r8, mH_r9, mH_r10, mH_r11, mH_r12, mH_r14, mH_i0, mH_i2, mH_i7, mH_i13, mH_i15, mH_t71, mH_t, mH_lr, mH_l65, mH_l69, mH_l70, mH_l71, mH_l72, mH_l73, mH_l74, mH_l75, mH_c, r1w, rt, rs]
        refine e_icmp (t := 60) (pc' := 48) hK rfl (by first | omega) (by first | omega) (by decide) rfl (fun hb45 => ?_) (fun hb45 => ?_)
        · replace hb45 := cq_ge.1.mp hb45
          refine e_step (pc' := 61) hK rfl rfl rfl ?_
          refine e_step (pc' := 63) hK rfl rfl rfl ?_
          try simp only [List.set_cons_zero, List.set_cons_succ]
          refine m_learnM a ha hI (t : Int) (u : Int) (by omega) (by omega) (by omega) hgd (v0 := v) (v := s) (mo_m (ms_t hw hs)) (by { rw [es, gop_o (by omega)]; exact hR }) _ (gn A) 0 s ⟨by omega, mq_r a s, by rw [es]; exact r0, fun r hr => rfl, fun k k0 k1 => ?_⟩
          rw [if_neg (by omega), es, gop_same.2.2.2.1]; exact (hR.2.2.1 k k0 k1).2
        · replace hb45 := cq_ge.2.mp hb45
          refine e_step (pc' := 49) hK rfl rfl rfl ?_
          refine e_step (pc' := 50) hK rfl rfl rfl ?_
          refine e_cRS1 (z := 119) (pc' := 53) hK rfl rfl rfl (Nat.le_of_ble_eq_true rfl) (Nat.le_of_ble_eq_true rfl) (m_tempAt (t : Int)) (by decide) rfl ?_
          try simp (disch := omega) only [mH_t64, mH_r1, mH_r3, mH_r4, mH_r5, mH_r6, mH_r8, mH_r9, mH_r10, mH_r11, mH_r12, mH_r14, mH_i0, mH_i2, mH_i7, mH_i13, mH_i15, mH_t71, mH_t, mH_lr, mH_l65, mH_l69, mH_l70, mH_l71, mH_l72, mH_l73, mH_l74, mH_l75, mH_c, r1w, rt, rs]
          refine e_step (pc' := 54) hK rfl rfl rfl ?_
          refine e_step (pc' := 55) hK rfl rfl rfl ?_
          refine e_step (pc' := 57) hK rfl rfl rfl ?_
          refine e_step (pc' := 58) hK rfl rfl rfl ?_
          refine e_step (pc' := 59) hK rfl rfl rfl ?_
          refine e_iast (pc' := 60) hK rfl (by simp (disch := omega) only [mH_t64, mH_r1, mH_r3, mH_r4, mH_r5, mH_r6, mH_r8, mH_r9, mH_r10, mH_r11, mH_r12, mH_r14, mH_i0, mH_i2, mH_i7, mH_i13, mH_i15, mH_t71, mH_t, mH_lr, mH_l65, mH_l69, mH_l70, mH_l71, mH_l72, mH_l73, mH_l74, mH_l75, mH_c, r1w, rt, rs]) (by first | omega) (by (try simp (disch := omega) only [mH_t64, mH_r1, mH_r3, mH_r4, mH_r5, mH_r6, mH_r8, mH_r9, mH_r10, mH_r11, mH_r12, mH_r14, mH_i0, mH_i2, mH_i7, mH_i13, mH_i15, mH_t71, mH_t, mH_lr, mH_l65, mH_l69, mH_l70, mH_l71, mH_l72, mH_l73, mH_l74, mH_l75, mH_c, r1w, rt, rs]); first | omega) rfl ?_
          simp (disch := omega) only [mW_0, mW_2, mW_7, mW_13, mW_15, mW_a, gu_s]
          refine e_step (pc' := 61) hK rfl rfl rfl ?_
          refine e_step (pc' := 63) hK rfl rfl rfl ?_
          try simp only [List.set_cons_zero, List.set_cons_succ]
          have hgp := hmb.2.2.1 hgd (by omega)
          have hRo : Rw (gu s a (mv_up (s a) (1052 + 13 * (t : Int) + 1 + mpr A (t : Int) (u : Int)) 4) a) (gopen A (t : Int) (god A (t : Int) (u : Int))) := by
            rw [gu_s, es]
            exact Rw_open hR hI (by omega) ht hgp.2.1 hgp.2.2 (by rw [← hgp.1, up_s]) (fun r hr => up_n (by rw [hgp.1]; exact hr))
          refine m_learnM a ha hI (t : Int) (u : Int) (by omega) (by omega) (by omega) hgd (v0 := v) (mo_t (mo_m (ms_t hw hs)) (fun b _ _ _ n4 => gu_n n4)) hRo _ (gn A) 0 _ ⟨by omega, mq_r a _, by rw [hRo.1, gop_same.1], fun r hr => rfl, fun k k0 k1 => ?_⟩
          rw [if_neg (by omega)]; exact (hRo.2.2.1 k k0 (by rw [gop_same.1]; exact k1)).2
set_option maxRecDepth 10000 in
theorem m_learnO (a : Int) (ha : 266 ≤ a ∧ a ≤ 268) {A : lg} (hR : Rw (v a) A) (hI : gI A) : ∀ (m : Nat) (t : Nat) (w : mvt) (a3 a4 a5 : mv_V), (t + m = gT A ∧ lf (fun t => decide (glq A t ≠ -9999)) t = -9999 ∧ ms v w) → mv_Ev sc 161 2 [(2, 264), (2, a), (0, (t : Int)), a3, a4, a5] [] c (mH h w) (fun r c' h' => r = (0, glv A) ∧ c' = c ∧ ∃ w, h' = mH h w ∧ mo a v w ∧ Rw (w a) (gle A)) := by
  intro m
  induction m with
  | zero =>
    intro t w a3 a4 a5 ⟨ht, hf, hw⟩
    have b1 := hI.1
    have b2 := hI.2.1
    have r0 := hR.1
    have r1 := hR.2.1
    have ew : w a = v a := hw a (by omega) (by omega) (by omega)
    have r1w : w a 1 = gT A := by { rw [ew]; exact r1 }
    have hK : (mv_m 161).1 = kc_Mod_learnOn := rfl
    refine e_step (pc' := 3) hK rfl rfl rfl ?_
    refine e_step (pc' := 4) hK rfl rfl rfl ?_
    refine e_step (pc' := 5) hK rfl rfl rfl ?_
    refine e_iald (pc' := 6) hK rfl (by simp (disch := omega) only [mH_t64, mH_r1, mH_r3, mH_r4, mH_r5, mH_r6, mH_r8, mH_r9, mH_r10, mH_r11, mH_r12, mH_r14, mH_i0, mH_i2, mH_i7, mH_i13, mH_i15, mH_t71, mH_t, mH_lr, mH_l65, mH_l69, mH_l70, mH_l71, mH_l72, mH_l73, mH_l74, mH_l75, mH_c, r1w]) (by omega) (by (try simp (disch := omega) only [mH_t64, mH_r1, mH_r3, mH_r4, mH_r5, mH_r6, mH_r8, mH_r9, mH_r10, mH_r11, mH_r12, mH_r14, mH_i0, mH_i2, mH_i7, mH_i13, mH_i15, mH_t71, mH_t, mH_lr, mH_l65, mH_l69, mH_l70, mH_l71, mH_l72, mH_l73, mH_l74, mH_l75, mH_c, r1w]); omega) rfl ?_
    try simp (disch := omega) only [mH_t64, mH_r1, mH_r3, mH_r4, mH_r5, mH_r6, mH_r8, mH_r9, mH_r10, mH_r11, mH_r12, mH_r14, mH_i0, mH_i2, mH_i7, mH_i13, mH_i15, mH_t71, mH_t, mH_lr, mH_l65, mH_l69, mH_l70, mH_l71, mH_l72, mH_l73, mH_l74, mH_l75, mH_c, r1w]
    refine e_icmp (t := 136) (pc' := 9) hK rfl (by omega) (by omega) (by decide) rfl (fun hb6 => ?_) (fun hb6 => ?_)
    · replace hb6 := cq_ge.1.mp hb6
      refine e_step (pc' := 139) hK rfl rfl rfl ?_
      refine e_ret hK rfl rfl rfl ?_
      have e : gT A = t := by omega
      have e9 : glt A = -9999 := by { unfold glt; rw [e]; exact hf }
      have e8 := glv_none.mpr e9
      exact ⟨by rw [e8], rfl, w, rfl, mo_m hw, by rw [gle_none e8, ew]; exact hR⟩
    · replace hb6 := cq_ge.2.mp hb6
      exfalso; first | omega | exact absurd trivial (by assumption)
  | succ m ih =>
    intro t w a3 a4 a5 ⟨ht, hf, hw⟩
    have b1 := hI.1
    have b2 := hI.2.1
    have r0 := hR.1
    have r1 := hR.2.1
    have ew : w a = v a := hw a (by omega) (by omega) (by omega)
    have r1w : w a 1 = gT A := by { rw [ew]; exact r1 }
    have hK : (mv_m 161).1 = kc_Mod_learnOn := rfl
    refine e_step (pc' := 3) hK rfl rfl rfl ?_
    refine e_step (pc' := 4) hK rfl rfl rfl ?_
    refine e_step (pc' := 5) hK rfl rfl rfl ?_
    refine e_iald (pc' := 6) hK rfl (by simp (disch := omega) only [mH_t64, mH_r1, mH_r3, mH_r4, mH_r5, mH_r6, mH_r8, mH_r9, mH_r10, mH_r11, mH_r12, mH_r14, mH_i0, mH_i2, mH_i7, mH_i13, mH_i15, mH_t71, mH_t, mH_lr, mH_l65, mH_l69, mH_l70, mH_l71, mH_l72, mH_l73, mH_l74, mH_l75, mH_c, r1w]) (by omega) (by (try simp (disch := omega) only [mH_t64, mH_r1, mH_r3, mH_r4, mH_r5, mH_r6, mH_r8, mH_r9, mH_r10, mH_r11, mH_r12, mH_r14, mH_i0, mH_i2, mH_i7, mH_i13, mH_i15, mH_t71, mH_t, mH_lr, mH_l65, mH_l69, mH_l70, mH_l71, mH_l72, mH_l73, mH_l74, mH_l75, mH_c, r1w]); omega) rfl ?_
    try simp (disch := omega) only [mH_t64, mH_r1, mH_r3, mH_r4, mH_r5, mH_r6, mH_r8, mH_r9, mH_r10, mH_r11, mH_r12, mH_r14, mH_i0, mH_i2, mH_i7, mH_i13, mH_i15, mH_t71, mH_t, mH_lr, mH_l65, mH_l69, mH_l70, mH_l71, mH_l72, mH_l73, mH_l74, mH_l75, mH_c, r1w]
    refine e_icmp (t := 136) (pc' := 9) hK rfl (by omega) (by omega) (by decide) rfl (fun hb6 => ?_) (fun hb6 => ?_)
    · replace hb6 := cq_ge.1.mp hb6
      exfalso; first | omega | exact absurd trivial (by assumption)
    · replace hb6 := cq_ge.2.mp hb6
      refine e_step (pc' := 10) hK rfl rfl rfl ?_
      refine e_step (pc' := 11) hK rfl rfl rfl ?_
      refine e_step (pc' := 12) hK rfl rfl rfl ?_
      refine e_step (pc' := 13) hK rfl rfl rfl ?_
      try simp only [List.set_cons_zero, List.set_cons_succ]
      rw [show ((t : Int) + 1 : Int) = ((t + 1 : Nat) : Int) from rfl]
      have hI2 := m_learnI (sc := sc) (c := c) (h := h) a ha hR hI t (by omega) hf (fun hq w2 b3 b4 b5 hw2 => ?_) (gT A - (t + 1)) (t + 1) w a4 a5 ⟨by omega, by omega, ?_, hw⟩
      · exact hI2
      · refine e_step (pc' := 133) hK rfl rfl rfl ?_
        try simp only [List.set_cons_zero, List.set_cons_succ]
        refine e_goto (t := 2) hK rfl (by decide) ?_
        exact ih (t + 1) w2 _ _ _ ⟨by omega, lf_s hf (decide_eq_false (fun q => q hq)), hw2⟩
      · exact lf_n (fun i hi => by { show (decide _ && _) = false; rw [decide_eq_false (by omega)]; rfl })
set_option maxRecDepth 10000 in
theorem m_learnOn (a : Int) (ha : 266 ≤ a ∧ a ≤ 268) {A : lg} (hR : Rw (v a) A) (hI : gI A) : mv_Cl sc q_Mod_learnOn [(2, 264), (2, a)] c (mH h v) (fun r c' h' => r = (0, glv A) ∧ c' = c ∧ ∃ w, h' = mH h w ∧ mo a v w ∧ Rw (w a) (gle A)) := by
  show mv_Ev sc 161 0 [(2, 264), (2, a), (5, 0), (5, 0), (5, 0), (5, 0)] [] c (mH h v) _
  have hK : (mv_m 161).1 = kc_Mod_learnOn := rfl
  refine e_step (pc' := 1) hK rfl rfl rfl ?_
  refine e_step (pc' := 2) hK rfl rfl rfl ?_
  try simp only [List.set_cons_zero, List.set_cons_succ]
  exact m_learnO a ha hR hI (gT A) 0 v _ _ _ ⟨by omega, rfl, ms_r v⟩
end MO
