section LMC
variable {sc : Int × (Int → Int)} {c : mv_C} {h : mv_H}
theorem e_ixor {y pc pc' : Nat} {K : mv_K} {a x z : Int} {ls r : List mv_V} {Q : mv_R → mv_C → mv_H → Prop} (hK : (mv_m y).1 = K) (hg : mv_get K pc = some (.ixor, a)) (h0 : 0 ≤ x) (h1 : 0 ≤ z) (h2 : mv_i x) (h3 : mv_i z) (hp : pc + 1 = pc') (k0 : mv_Ev sc y pc' ls ((0, ((x.toNat ^^^ z.toNat : Nat) : Int)) :: r) c h Q) : mv_Ev sc y pc ls ((0, z) :: (0, x) :: r) c h Q := by
  subst hp
  exact e_step hK hg rfl (by simp only [mv_step, mv_b2]; rw [if_pos ⟨h0, h1, h2, h3⟩]) k0
set_option maxRecDepth 10000 in
theorem c_addChar {l : Int} {n : Nat} {f : Int → Int} (hl : LnA h l n f) (x : Int) (hx : mv_i x) : mv_Cl sc q_Line_addCharacter [(2, l), (0, x)] c h (fun r c' h' => c' = c ∧ ((px_a (px f n) n x ∧ r = (0, 1) ∧ LnA h' l (n + 1) (mv_up f n x) ∧ ∀ b, (b < l ∨ l + 5 < b) → h' b = h b) ∨ (¬ px_a (px f n) n x ∧ r = (0, 0) ∧ h' = h))) := by
  have hI := hl.I
  obtain ⟨i1, i2, i3, i4, i5⟩ := id hI
  obtain ⟨⟨w0, w1, w2, w3, w4, w5, w6, w7, w8, w9, w10, w11⟩, a1, a2, a3, a4, a5⟩ := id hl
  obtain ⟨kb1, kb2, kb3⟩ := px_kb x
  have a53 := fun (p : Int) (h0 : 0 ≤ p) (h1 : p < (px f n).1) => (a5 p h0 h1).2.2.1
  have a54 := fun (p : Int) (h0 : 0 ≤ p) (h1 : p < (px f n).1) => (a5 p h0 h1).2.2.2
  show mv_Ev sc 6 0 [(2, l), (0, x), (5, 0), (5, 0)] [] c h _
  have hK : (mv_m 6).1 = kc_Line_addCharacter := rfl
  refine e_step (pc' := 1) hK rfl rfl rfl ?_
  refine e_cRS1 (z := 43) (pc' := 4) hK rfl rfl rfl (Nat.le_of_ble_eq_true rfl) (Nat.le_of_ble_eq_true rfl) (c_kindOfCharacter x hx) (by decide) rfl ?_
  try simp (disch := omega) only [uo_s, uo_n, up_s, up_n, w1, w2, w3, w4, w5, w6, w7.1, w7.2, w8.1, w8.2, w9.1, w9.2, w10.1, w10.2, w11.1, w11.2, a1, a2, a53, a54]
  refine e_step (pc' := 5) hK rfl rfl rfl ?_
  try simp only [List.set_cons_zero, List.set_cons_succ]
  refine e_step (pc' := 6) hK rfl rfl rfl ?_
  refine e_step (pc' := 7) hK rfl rfl rfl ?_
  refine e_cRV2 (z := 7) (pc' := 10) hK rfl rfl (by simp (disch := omega) only [uo_s, uo_n, up_s, up_n, w1, w2, w3, w4, w5, w6, w7.1, w7.2, w8.1, w8.2, w9.1, w9.2, w10.1, w10.2, w11.1, w11.2, a1, a2, a53, a54]; rfl) rfl (Nat.le_of_ble_eq_true rfl) (Nat.le_of_ble_eq_true rfl) (c_grows hl _ (by omega)) (by decide) rfl ?_
  try simp (disch := omega) only [uo_s, uo_n, up_s, up_n, w1, w2, w3, w4, w5, w6, w7.1, w7.2, w8.1, w8.2, w9.1, w9.2, w10.1, w10.2, w11.1, w11.2, a1, a2, a53, a54]
  refine e_if (t := 22) (pc' := 13) hK rfl (by first | omega | exact bo_i _) (by decide) rfl (fun hb10 => ?_) (fun hb10 => ?_)
  · replace hb10 := cq_eq.1.mp hb10
    try simp only [bo_0, Bool.not_eq_false] at hb10
    refine e_step (pc' := 23) hK rfl rfl rfl ?_
    refine e_getI (ci := 1) (k := 6) (pc' := 26) hK rfl (by simp (disch := omega) only [uo_s, uo_n, up_s, up_n, w1, w2, w3, w4, w5, w6, w7.1, w7.2, w8.1, w8.2, w9.1, w9.2, w10.1, w10.2, w11.1, w11.2, a1, a2, a53, a54]) rfl rfl (by decide) (by decide) rfl ?_
    try simp (disch := omega) only [uo_s, uo_n, up_s, up_n, w1, w2, w3, w4, w5, w6, w7.1, w7.2, w8.1, w8.2, w9.1, w9.2, w10.1, w10.2, w11.1, w11.2, a1, a2, a53, a54]
    refine e_step (pc' := 27) hK rfl rfl rfl ?_
    try simp only [List.set_cons_zero, List.set_cons_succ]
    refine e_step (pc' := 28) hK rfl rfl rfl ?_
    refine e_step (pc' := 29) hK rfl rfl rfl ?_
    refine e_icmp (t := 51) (pc' := 32) hK rfl (by first | omega | exact bo_i _) (by first | omega | exact bo_i _) (by decide) rfl (fun hb29 => ?_) (fun hb29 => ?_)
    · replace hb29 := cq_eq.1.mp hb29
      try simp only [bo_0, Bool.not_eq_false] at hb29
      refine e_step (pc' := 52) hK rfl rfl rfl ?_
      refine e_ret hK rfl rfl (by first | rfl | (simp only [mv_ret]; rw [if_pos]; exact Or.inr ⟨rfl, by omega⟩)) ?_
      refine ⟨rfl, Or.inr ⟨?_, rfl, rfl⟩⟩
      rintro ⟨q1, q2, q3, q4⟩
      first | exact absurd (by assumption) q1 | omega | (have q5 := q3 hb10; omega)
    · replace hb29 := cq_eq.2.mp hb29
      try simp only [bo_0, Bool.not_eq_false] at hb29
      refine e_step (pc' := 33) hK rfl rfl rfl ?_
      refine e_getI (ci := 1) (k := 5) (pc' := 36) hK rfl (by simp (disch := omega) only [uo_s, uo_n, up_s, up_n, w1, w2, w3, w4, w5, w6, w7.1, w7.2, w8.1, w8.2, w9.1, w9.2, w10.1, w10.2, w11.1, w11.2, a1, a2, a53, a54]) rfl rfl (by decide) (by decide) rfl ?_
      try simp (disch := omega) only [uo_s, uo_n, up_s, up_n, w1, w2, w3, w4, w5, w6, w7.1, w7.2, w8.1, w8.2, w9.1, w9.2, w10.1, w10.2, w11.1, w11.2, a1, a2, a53, a54]
      refine e_step (pc' := 38) hK rfl rfl rfl ?_
      refine e_icmp (t := 51) (pc' := 41) hK rfl (by first | omega | exact bo_i _) (by first | omega | exact bo_i _) (by decide) rfl (fun hb38 => ?_) (fun hb38 => ?_)
      · replace hb38 := cq_ge.1.mp hb38
        try simp only [bo_0, Bool.not_eq_false] at hb38
        refine e_step (pc' := 52) hK rfl rfl rfl ?_
        refine e_ret hK rfl rfl (by first | rfl | (simp only [mv_ret]; rw [if_pos]; exact Or.inr ⟨rfl, by omega⟩)) ?_
        refine ⟨rfl, Or.inr ⟨?_, rfl, rfl⟩⟩
        rintro ⟨q1, q2, q3, q4⟩
        first | exact absurd (by assumption) q1 | omega | (have q5 := q3 hb10; omega)
      · replace hb38 := cq_ge.2.mp hb38
        try simp only [bo_0, Bool.not_eq_false] at hb38
        refine e_step (pc' := 42) hK rfl rfl rfl ?_
        refine e_if (t := 51) (pc' := 45) hK rfl (by first | omega | exact bo_i _) (by decide) rfl (fun hb42 => ?_) (fun hb42 => ?_)
        · replace hb42 := cq_lt.1.mp hb42
          try simp only [bo_0, Bool.not_eq_false] at hb42
          exfalso; first | omega | exact absurd trivial (by assumption) | (first | omega | exact bo_i _)
        · replace hb42 := cq_lt.2.mp hb42
          try simp only [bo_0, Bool.not_eq_false] at hb42
          refine e_step (pc' := 46) hK rfl rfl rfl ?_
          refine e_step (pc' := 48) hK rfl rfl rfl ?_
          refine e_icmp (t := 53) (pc' := 51) hK rfl (by first | omega | exact bo_i _) (by first | omega | exact bo_i _) (by decide) rfl (fun hb48 => ?_) (fun hb48 => ?_)
          · replace hb48 := cq_lt.1.mp hb48
            try simp only [bo_0, Bool.not_eq_false] at hb48
            refine e_step (pc' := 54) hK rfl rfl rfl ?_
            refine e_step (pc' := 55) hK rfl rfl rfl ?_
            refine e_getI (ci := 1) (k := 6) (pc' := 58) hK rfl (by simp (disch := omega) only [uo_s, uo_n, up_s, up_n, w1, w2, w3, w4, w5, w6, w7.1, w7.2, w8.1, w8.2, w9.1, w9.2, w10.1, w10.2, w11.1, w11.2, a1, a2, a53, a54]) rfl rfl (by decide) (by decide) rfl ?_
            try simp (disch := omega) only [uo_s, uo_n, up_s, up_n, w1, w2, w3, w4, w5, w6, w7.1, w7.2, w8.1, w8.2, w9.1, w9.2, w10.1, w10.2, w11.1, w11.2, a1, a2, a53, a54]
            refine e_icmp (t := 102) (pc' := 61) hK rfl (by first | omega | exact bo_i _) (by first | omega | exact bo_i _) (by decide) rfl (fun hb58 => ?_) (fun hb58 => ?_)
            · replace hb58 := cq_ne.1.mp hb58
              try simp only [bo_0, Bool.not_eq_false] at hb58
              exfalso; first | omega | exact absurd trivial (by assumption) | (first | omega | exact bo_i _)
            · replace hb58 := cq_ne.2.mp hb58
              try simp only [bo_0, Bool.not_eq_false] at hb58
              refine e_step (pc' := 62) hK rfl rfl rfl ?_
              refine e_getR (ci := 1) (k := 1) (pc' := 65) hK rfl (by simp (disch := omega) only [uo_s, uo_n, up_s, up_n, w1, w2, w3, w4, w5, w6, w7.1, w7.2, w8.1, w8.2, w9.1, w9.2, w10.1, w10.2, w11.1, w11.2, a1, a2, a53, a54]) rfl rfl (by decide) (by decide) (by simp (disch := omega) only [uo_s, uo_n, up_s, up_n, w1, w2, w3, w4, w5, w6, w7.1, w7.2, w8.1, w8.2, w9.1, w9.2, w10.1, w10.2, w11.1, w11.2, a1, a2, a53, a54]; first | omega | exact bo_i _) rfl ?_
              try simp (disch := omega) only [uo_s, uo_n, up_s, up_n, w1, w2, w3, w4, w5, w6, w7.1, w7.2, w8.1, w8.2, w9.1, w9.2, w10.1, w10.2, w11.1, w11.2, a1, a2, a53, a54]
              refine e_step (pc' := 66) hK rfl rfl rfl ?_
              refine e_step (pc' := 67) hK rfl rfl rfl ?_
              refine e_iast (pc' := 68) hK rfl (by simp (disch := omega) only [uo_s, uo_n, up_s, up_n, w1, w2, w3, w4, w5, w6, w7.1, w7.2, w8.1, w8.2, w9.1, w9.2, w10.1, w10.2, w11.1, w11.2, a1, a2, a53, a54]) (by first | omega | exact bo_i _) (by simp (disch := omega) only [uo_s, uo_n, up_s, up_n, w1, w2, w3, w4, w5, w6, w7.1, w7.2, w8.1, w8.2, w9.1, w9.2, w10.1, w10.2, w11.1, w11.2, a1, a2, a53, a54]; first | omega | exact bo_i _) rfl ?_
              refine e_step (pc' := 69) hK rfl rfl rfl ?_
              refine e_getR (ci := 1) (k := 2) (pc' := 72) hK rfl (by simp (disch := omega) only [uo_s, uo_n, up_s, up_n, w1, w2, w3, w4, w5, w6, w7.1, w7.2, w8.1, w8.2, w9.1, w9.2, w10.1, w10.2, w11.1, w11.2, a1, a2, a53, a54]) rfl rfl (by decide) (by decide) (by simp (disch := omega) only [uo_s, uo_n, up_s, up_n, w1, w2, w3, w4, w5, w6, w7.1, w7.2, w8.1, w8.2, w9.1, w9.2, w10.1, w10.2, w11.1, w11.2, a1, a2, a53, a54]; first | omega | exact bo_i _) rfl ?_
              try simp (disch := omega) only [uo_s, uo_n, up_s, up_n, w1, w2, w3, w4, w5, w6, w7.1, w7.2, w8.1, w8.2, w9.1, w9.2, w10.1, w10.2, w11.1, w11.2, a1, a2, a53, a54]
              refine e_step (pc' := 73) hK rfl rfl rfl ?_
              refine e_step (pc' := 74) hK rfl rfl rfl ?_
              refine e_getI (ci := 1) (k := 5) (pc' := 77) hK rfl (by simp (disch := omega) only [uo_s, uo_n, up_s, up_n, w1, w2, w3, w4, w5, w6, w7.1, w7.2, w8.1, w8.2, w9.1, w9.2, w10.1, w10.2, w11.1, w11.2, a1, a2, a53, a54]) rfl rfl (by decide) (by decide) rfl ?_
              try simp (disch := omega) only [uo_s, uo_n, up_s, up_n, w1, w2, w3, w4, w5, w6, w7.1, w7.2, w8.1, w8.2, w9.1, w9.2, w10.1, w10.2, w11.1, w11.2, a1, a2, a53, a54]
              refine e_iast (pc' := 78) hK rfl (by simp (disch := omega) only [uo_s, uo_n, up_s, up_n, w1, w2, w3, w4, w5, w6, w7.1, w7.2, w8.1, w8.2, w9.1, w9.2, w10.1, w10.2, w11.1, w11.2, a1, a2, a53, a54]) (by first | omega | exact bo_i _) (by simp (disch := omega) only [uo_s, uo_n, up_s, up_n, w1, w2, w3, w4, w5, w6, w7.1, w7.2, w8.1, w8.2, w9.1, w9.2, w10.1, w10.2, w11.1, w11.2, a1, a2, a53, a54]; first | omega | exact bo_i _) rfl ?_
              refine e_step (pc' := 79) hK rfl rfl rfl ?_
              refine e_getR (ci := 1) (k := 3) (pc' := 82) hK rfl (by simp (disch := omega) only [uo_s, uo_n, up_s, up_n, w1, w2, w3, w4, w5, w6, w7.1, w7.2, w8.1, w8.2, w9.1, w9.2, w10.1, w10.2, w11.1, w11.2, a1, a2, a53, a54]) rfl rfl (by decide) (by decide) (by simp (disch := omega) only [uo_s, uo_n, up_s, up_n, w1, w2, w3, w4, w5, w6, w7.1, w7.2, w8.1, w8.2, w9.1, w9.2, w10.1, w10.2, w11.1, w11.2, a1, a2, a53, a54]; first | omega | exact bo_i _) rfl ?_
              try simp (disch := omega) only [uo_s, uo_n, up_s, up_n, w1, w2, w3, w4, w5, w6, w7.1, w7.2, w8.1, w8.2, w9.1, w9.2, w10.1, w10.2, w11.1, w11.2, a1, a2, a53, a54]
              refine e_step (pc' := 83) hK rfl rfl rfl ?_
              refine e_step (pc' := 84) hK rfl rfl rfl ?_
              refine e_iast (pc' := 85) hK rfl (by simp (disch := omega) only [uo_s, uo_n, up_s, up_n, w1, w2, w3, w4, w5, w6, w7.1, w7.2, w8.1, w8.2, w9.1, w9.2, w10.1, w10.2, w11.1, w11.2, a1, a2, a53, a54]) (by first | omega | exact bo_i _) (by simp (disch := omega) only [uo_s, uo_n, up_s, up_n, w1, w2, w3, w4, w5, w6, w7.1, w7.2, w8.1, w8.2, w9.1, w9.2, w10.1, w10.2, w11.1, w11.2, a1, a2, a53, a54]; first | omega | exact bo_i _) rfl ?_
              refine e_step (pc' := 86) hK rfl rfl rfl ?_
              refine e_getR (ci := 1) (k := 4) (pc' := 89) hK rfl (by simp (disch := omega) only [uo_s, uo_n, up_s, up_n, w1, w2, w3, w4, w5, w6, w7.1, w7.2, w8.1, w8.2, w9.1, w9.2, w10.1, w10.2, w11.1, w11.2, a1, a2, a53, a54]) rfl rfl (by decide) (by decide) (by simp (disch := omega) only [uo_s, uo_n, up_s, up_n, w1, w2, w3, w4, w5, w6, w7.1, w7.2, w8.1, w8.2, w9.1, w9.2, w10.1, w10.2, w11.1, w11.2, a1, a2, a53, a54]; first | omega | exact bo_i _) rfl ?_
              try simp (disch := omega) only [uo_s, uo_n, up_s, up_n, w1, w2, w3, w4, w5, w6, w7.1, w7.2, w8.1, w8.2, w9.1, w9.2, w10.1, w10.2, w11.1, w11.2, a1, a2, a53, a54]
              refine e_step (pc' := 90) hK rfl rfl rfl ?_
              refine e_step (pc' := 91) hK rfl rfl rfl ?_
              refine e_iast (pc' := 92) hK rfl (by simp (disch := omega) only [uo_s, uo_n, up_s, up_n, w1, w2, w3, w4, w5, w6, w7.1, w7.2, w8.1, w8.2, w9.1, w9.2, w10.1, w10.2, w11.1, w11.2, a1, a2, a53, a54]) (by first | omega | exact bo_i _) (by simp (disch := omega) only [uo_s, uo_n, up_s, up_n, w1, w2, w3, w4, w5, w6, w7.1, w7.2, w8.1, w8.2, w9.1, w9.2, w10.1, w10.2, w11.1, w11.2, a1, a2, a53, a54]; first | omega | exact bo_i _) rfl ?_
              refine e_step (pc' := 93) hK rfl rfl rfl ?_
              refine e_step (pc' := 94) hK rfl rfl rfl ?_
              refine e_getI (ci := 1) (k := 6) (pc' := 97) hK rfl (by simp (disch := omega) only [uo_s, uo_n, up_s, up_n, w1, w2, w3, w4, w5, w6, w7.1, w7.2, w8.1, w8.2, w9.1, w9.2, w10.1, w10.2, w11.1, w11.2, a1, a2, a53, a54]) rfl rfl (by decide) (by decide) rfl ?_
              try simp (disch := omega) only [uo_s, uo_n, up_s, up_n, w1, w2, w3, w4, w5, w6, w7.1, w7.2, w8.1, w8.2, w9.1, w9.2, w10.1, w10.2, w11.1, w11.2, a1, a2, a53, a54]
              refine e_step (pc' := 98) hK rfl rfl rfl ?_
              refine e_step (pc' := 99) hK rfl rfl rfl ?_
              refine e_put (ci := 1) (k := 6) (pc' := 102) hK rfl (by simp (disch := omega) only [uo_s, uo_n, up_s, up_n, w1, w2, w3, w4, w5, w6, w7.1, w7.2, w8.1, w8.2, w9.1, w9.2, w10.1, w10.2, w11.1, w11.2, a1, a2, a53, a54]) rfl rfl (by decide) rfl rfl ?_
              refine e_step (pc' := 103) hK rfl rfl rfl ?_
              refine e_step (pc' := 104) hK rfl rfl rfl ?_
              refine e_icmp (t := 140) (pc' := 107) hK rfl (by first | omega | exact bo_i _) (by first | omega | exact bo_i _) (by decide) rfl (fun hb104 => ?_) (fun hb104 => ?_)
              · replace hb104 := cq_ne.1.mp hb104
                try simp only [bo_0, Bool.not_eq_false] at hb104
                refine e_step (pc' := 141) hK rfl rfl rfl ?_
                refine e_getR (ci := 1) (k := 0) (pc' := 144) hK rfl (by simp (disch := omega) only [uo_s, uo_n, up_s, up_n, w1, w2, w3, w4, w5, w6, w7.1, w7.2, w8.1, w8.2, w9.1, w9.2, w10.1, w10.2, w11.1, w11.2, a1, a2, a53, a54]) rfl rfl (by decide) (by decide) (by simp (disch := omega) only [uo_s, uo_n, up_s, up_n, w1, w2, w3, w4, w5, w6, w7.1, w7.2, w8.1, w8.2, w9.1, w9.2, w10.1, w10.2, w11.1, w11.2, a1, a2, a53, a54]; first | omega | exact bo_i _) rfl ?_
                try simp (disch := omega) only [uo_s, uo_n, up_s, up_n, w1, w2, w3, w4, w5, w6, w7.1, w7.2, w8.1, w8.2, w9.1, w9.2, w10.1, w10.2, w11.1, w11.2, a1, a2, a53, a54]
                refine e_step (pc' := 145) hK rfl rfl rfl ?_
                refine e_getI (ci := 1) (k := 5) (pc' := 148) hK rfl (by simp (disch := omega) only [uo_s, uo_n, up_s, up_n, w1, w2, w3, w4, w5, w6, w7.1, w7.2, w8.1, w8.2, w9.1, w9.2, w10.1, w10.2, w11.1, w11.2, a1, a2, a53, a54]) rfl rfl (by decide) (by decide) rfl ?_
                try simp (disch := omega) only [uo_s, uo_n, up_s, up_n, w1, w2, w3, w4, w5, w6, w7.1, w7.2, w8.1, w8.2, w9.1, w9.2, w10.1, w10.2, w11.1, w11.2, a1, a2, a53, a54]
                refine e_step (pc' := 149) hK rfl rfl rfl ?_
                refine e_i2c (pc' := 150) hK rfl (by first | omega | exact bo_i _) (by first | omega | exact bo_i _) rfl ?_
                refine e_cast (pc' := 151) hK rfl (by simp (disch := omega) only [uo_s, uo_n, up_s, up_n, w1, w2, w3, w4, w5, w6, w7.1, w7.2, w8.1, w8.2, w9.1, w9.2, w10.1, w10.2, w11.1, w11.2, a1, a2, a53, a54]) (by first | omega | exact bo_i _) (by simp (disch := omega) only [uo_s, uo_n, up_s, up_n, w1, w2, w3, w4, w5, w6, w7.1, w7.2, w8.1, w8.2, w9.1, w9.2, w10.1, w10.2, w11.1, w11.2, a1, a2, a53, a54]; first | omega | exact bo_i _) (by first | omega | exact bo_i _) (by first | omega | exact bo_i _) rfl ?_
                refine e_step (pc' := 152) hK rfl rfl rfl ?_
                refine e_step (pc' := 153) hK rfl rfl rfl ?_
                refine e_getI (ci := 1) (k := 5) (pc' := 156) hK rfl (by simp (disch := omega) only [uo_s, uo_n, up_s, up_n, w1, w2, w3, w4, w5, w6, w7.1, w7.2, w8.1, w8.2, w9.1, w9.2, w10.1, w10.2, w11.1, w11.2, a1, a2, a53, a54]) rfl rfl (by decide) (by decide) rfl ?_
                try simp (disch := omega) only [uo_s, uo_n, up_s, up_n, w1, w2, w3, w4, w5, w6, w7.1, w7.2, w8.1, w8.2, w9.1, w9.2, w10.1, w10.2, w11.1, w11.2, a1, a2, a53, a54]
                refine e_step (pc' := 157) hK rfl rfl rfl ?_
                refine e_step (pc' := 158) hK rfl rfl rfl ?_
                refine e_put (ci := 1) (k := 5) (pc' := 161) hK rfl (by simp (disch := omega) only [uo_s, uo_n, up_s, up_n, w1, w2, w3, w4, w5, w6, w7.1, w7.2, w8.1, w8.2, w9.1, w9.2, w10.1, w10.2, w11.1, w11.2, a1, a2, a53, a54]) rfl rfl (by decide) rfl rfl ?_
                refine e_step (pc' := 162) hK rfl rfl rfl ?_
                refine e_getR (ci := 1) (k := 3) (pc' := 165) hK rfl (by simp (disch := omega) only [uo_s, uo_n, up_s, up_n, w1, w2, w3, w4, w5, w6, w7.1, w7.2, w8.1, w8.2, w9.1, w9.2, w10.1, w10.2, w11.1, w11.2, a1, a2, a53, a54]) rfl rfl (by decide) (by decide) (by simp (disch := omega) only [uo_s, uo_n, up_s, up_n, w1, w2, w3, w4, w5, w6, w7.1, w7.2, w8.1, w8.2, w9.1, w9.2, w10.1, w10.2, w11.1, w11.2, a1, a2, a53, a54]; first | omega | exact bo_i _) rfl ?_
                try simp (disch := omega) only [uo_s, uo_n, up_s, up_n, w1, w2, w3, w4, w5, w6, w7.1, w7.2, w8.1, w8.2, w9.1, w9.2, w10.1, w10.2, w11.1, w11.2, a1, a2, a53, a54]
                refine e_step (pc' := 166) hK rfl rfl rfl ?_
                refine e_step (pc' := 167) hK rfl rfl rfl ?_
                refine e_iald (pc' := 168) hK rfl (by simp (disch := omega) only [uo_s, uo_n, up_s, up_n, w1, w2, w3, w4, w5, w6, w7.1, w7.2, w8.1, w8.2, w9.1, w9.2, w10.1, w10.2, w11.1, w11.2, a1, a2, a53, a54]) (by first | omega | exact bo_i _) (by simp (disch := omega) only [uo_s, uo_n, up_s, up_n, w1, w2, w3, w4, w5, w6, w7.1, w7.2, w8.1, w8.2, w9.1, w9.2, w10.1, w10.2, w11.1, w11.2, a1, a2, a53, a54]; first | omega | exact bo_i _) rfl ?_
                try simp (disch := omega) only [uo_s, uo_n, up_s, up_n, w1, w2, w3, w4, w5, w6, w7.1, w7.2, w8.1, w8.2, w9.1, w9.2, w10.1, w10.2, w11.1, w11.2, a1, a2, a53, a54]
                refine e_step (pc' := 169) hK rfl rfl rfl ?_
                refine e_step (pc' := 170) hK rfl rfl rfl ?_
                refine e_iast (pc' := 171) hK rfl (by simp (disch := omega) only [uo_s, uo_n, up_s, up_n, w1, w2, w3, w4, w5, w6, w7.1, w7.2, w8.1, w8.2, w9.1, w9.2, w10.1, w10.2, w11.1, w11.2, a1, a2, a53, a54]) (by first | omega | exact bo_i _) (by simp (disch := omega) only [uo_s, uo_n, up_s, up_n, w1, w2, w3, w4, w5, w6, w7.1, w7.2, w8.1, w8.2, w9.1, w9.2, w10.1, w10.2, w11.1, w11.2, a1, a2, a53, a54]; first | omega | exact bo_i _) rfl ?_
                refine e_step (pc' := 172) hK rfl rfl rfl ?_
                refine e_ret hK rfl rfl (by first | rfl | (simp only [mv_ret]; rw [if_pos]; exact Or.inr ⟨rfl, by omega⟩)) ?_
                have ha : px_a (px f n) n x := ⟨hb29, by omega, fun hgf => by omega, fun hgt h3 => absurd h3 hb104⟩
                refine ⟨rfl, Or.inl ⟨ha, rfl, ⟨⟨w0, ?_, ?_, ?_, ?_, ?_, ?_, ⟨?_, ?_⟩, ⟨?_, ?_⟩, ⟨?_, ?_⟩, ⟨?_, ?_⟩, ⟨?_, ?_⟩⟩, ?_, ?_, px_ok_up a3 ha, fun k h0 h1 => ?_, fun p h0 h1 => ?_⟩, fun b hb => ?_⟩⟩
                · simp (disch := omega) only [uo_s, uo_n, up_s, up_n, w1, w2, w3, w4, w5, w6, w7.1, w7.2, w8.1, w8.2, w9.1, w9.2, w10.1, w10.2, w11.1, w11.2, a1, a2, a53, a54]
                · simp (disch := omega) only [uo_s, uo_n, up_s, up_n, w1, w2, w3, w4, w5, w6, w7.1, w7.2, w8.1, w8.2, w9.1, w9.2, w10.1, w10.2, w11.1, w11.2, a1, a2, a53, a54]
                · simp (disch := omega) only [uo_s, uo_n, up_s, up_n, w1, w2, w3, w4, w5, w6, w7.1, w7.2, w8.1, w8.2, w9.1, w9.2, w10.1, w10.2, w11.1, w11.2, a1, a2, a53, a54]
                · simp (disch := omega) only [uo_s, uo_n, up_s, up_n, w1, w2, w3, w4, w5, w6, w7.1, w7.2, w8.1, w8.2, w9.1, w9.2, w10.1, w10.2, w11.1, w11.2, a1, a2, a53, a54]
                · simp (disch := omega) only [uo_s, uo_n, up_s, up_n, w1, w2, w3, w4, w5, w6, w7.1, w7.2, w8.1, w8.2, w9.1, w9.2, w10.1, w10.2, w11.1, w11.2, a1, a2, a53, a54]
                · simp (disch := omega) only [uo_s, uo_n, up_s, up_n, w1, w2, w3, w4, w5, w6, w7.1, w7.2, w8.1, w8.2, w9.1, w9.2, w10.1, w10.2, w11.1, w11.2, a1, a2, a53, a54]
                · simp (disch := omega) only [uo_s, uo_n, up_s, up_n, w1, w2, w3, w4, w5, w6, w7.1, w7.2, w8.1, w8.2, w9.1, w9.2, w10.1, w10.2, w11.1, w11.2, a1, a2, a53, a54]
                · simp (disch := omega) only [uo_s, uo_n, up_s, up_n, w1, w2, w3, w4, w5, w6, w7.1, w7.2, w8.1, w8.2, w9.1, w9.2, w10.1, w10.2, w11.1, w11.2, a1, a2, a53, a54]
                · simp (disch := omega) only [uo_s, uo_n, up_s, up_n, w1, w2, w3, w4, w5, w6, w7.1, w7.2, w8.1, w8.2, w9.1, w9.2, w10.1, w10.2, w11.1, w11.2, a1, a2, a53, a54]
                · simp (disch := omega) only [uo_s, uo_n, up_s, up_n, w1, w2, w3, w4, w5, w6, w7.1, w7.2, w8.1, w8.2, w9.1, w9.2, w10.1, w10.2, w11.1, w11.2, a1, a2, a53, a54]
                · simp (disch := omega) only [uo_s, uo_n, up_s, up_n, w1, w2, w3, w4, w5, w6, w7.1, w7.2, w8.1, w8.2, w9.1, w9.2, w10.1, w10.2, w11.1, w11.2, a1, a2, a53, a54]
                · simp (disch := omega) only [uo_s, uo_n, up_s, up_n, w1, w2, w3, w4, w5, w6, w7.1, w7.2, w8.1, w8.2, w9.1, w9.2, w10.1, w10.2, w11.1, w11.2, a1, a2, a53, a54]
                · simp (disch := omega) only [uo_s, uo_n, up_s, up_n, w1, w2, w3, w4, w5, w6, w7.1, w7.2, w8.1, w8.2, w9.1, w9.2, w10.1, w10.2, w11.1, w11.2, a1, a2, a53, a54]
                · simp (disch := omega) only [uo_s, uo_n, up_s, up_n, w1, w2, w3, w4, w5, w6, w7.1, w7.2, w8.1, w8.2, w9.1, w9.2, w10.1, w10.2, w11.1, w11.2, a1, a2, a53, a54]
                · simp (disch := omega) only [uo_s, uo_n, up_s, up_n, w1, w2, w3, w4, w5, w6, w7.1, w7.2, w8.1, w8.2, w9.1, w9.2, w10.1, w10.2, w11.1, w11.2, a1, a2, a53, a54]
                · simp (disch := omega) only [uo_s, uo_n, up_s, up_n, w1, w2, w3, w4, w5, w6, w7.1, w7.2, w8.1, w8.2, w9.1, w9.2, w10.1, w10.2, w11.1, w11.2, a1, a2, a53, a54]
                · (simp (disch := omega) only [uo_s, uo_n, up_s, up_n, w1, w2, w3, w4, w5, w6, w7.1, w7.2, w8.1, w8.2, w9.1, w9.2, w10.1, w10.2, w11.1, w11.2, a1, a2, a53, a54]) <;> omega
                · rw [px_up1]; unfold px_add; rw [hb10]; (simp (disch := omega) only [cond_true, cond_false, uo_s, uo_n, up_s, up_n, w1, w2, w3, w4, w5, w6, w7.1, w7.2, w8.1, w8.2, w9.1, w9.2, w10.1, w10.2, w11.1, w11.2, a1, a2, a53, a54])
                · by_cases hk : k = n
                  · subst hk; simp (disch := omega) only [uo_s, uo_n, up_s, up_n, w1, w2, w3, w4, w5, w6, w7.1, w7.2, w8.1, w8.2, w9.1, w9.2, w10.1, w10.2, w11.1, w11.2, a1, a2, a53, a54]
                  · simp (disch := omega) only [uo_s, uo_n, up_s, up_n, w1, w2, w3, w4, w5, w6, w7.1, w7.2, w8.1, w8.2, w9.1, w9.2, w10.1, w10.2, w11.1, w11.2, a1, a2, a53, a54]; exact a4 k h0 (by omega)
                · rw [px_up1] at h1 ⊢
                  unfold px_add at h1 ⊢
                  rw [hb10] at h1 ⊢
                  simp only [cond_false] at h1 ⊢
                  by_cases hp : p = (px f n).1
                  · subst hp
                    refine ⟨?_, ?_, ?_, ?_⟩
                    · simp (disch := omega) only [uo_s, uo_n, up_s, up_n, w1, w2, w3, w4, w5, w6, w7.1, w7.2, w8.1, w8.2, w9.1, w9.2, w10.1, w10.2, w11.1, w11.2, a1, a2, a53, a54]
                    · simp (disch := omega) only [uo_s, uo_n, up_s, up_n, w1, w2, w3, w4, w5, w6, w7.1, w7.2, w8.1, w8.2, w9.1, w9.2, w10.1, w10.2, w11.1, w11.2, a1, a2, a53, a54]
                    · (simp (disch := omega) only [uo_s, uo_n, up_s, up_n, w1, w2, w3, w4, w5, w6, w7.1, w7.2, w8.1, w8.2, w9.1, w9.2, w10.1, w10.2, w11.1, w11.2, a1, a2, a53, a54]) <;> omega
                    · simp (disch := omega) only [uo_s, uo_n, up_s, up_n, w1, w2, w3, w4, w5, w6, w7.1, w7.2, w8.1, w8.2, w9.1, w9.2, w10.1, w10.2, w11.1, w11.2, a1, a2, a53, a54]; rw [if_neg hb104]
                  · have h8 := a5 p h0 (by omega)
                    refine ⟨?_, ?_, ?_, ?_⟩
                    · simp (disch := omega) only [uo_s, uo_n, up_s, up_n]; exact h8.1
                    · simp (disch := omega) only [uo_s, uo_n, up_s, up_n]; exact h8.2.1
                    · simp (disch := omega) only [uo_s, uo_n, up_s, up_n]; exact h8.2.2.1
                    · simp (disch := omega) only [uo_s, uo_n, up_s, up_n]; exact h8.2.2.2
                · simp (disch := omega) only [uo_n]
              · replace hb104 := cq_ne.2.mp hb104
                try simp only [bo_0, Bool.not_eq_false] at hb104
                refine e_step (pc' := 108) hK rfl rfl rfl ?_
                refine e_getR (ci := 1) (k := 3) (pc' := 111) hK rfl (by simp (disch := omega) only [uo_s, uo_n, up_s, up_n, w1, w2, w3, w4, w5, w6, w7.1, w7.2, w8.1, w8.2, w9.1, w9.2, w10.1, w10.2, w11.1, w11.2, a1, a2, a53, a54]) rfl rfl (by decide) (by decide) (by simp (disch := omega) only [uo_s, uo_n, up_s, up_n, w1, w2, w3, w4, w5, w6, w7.1, w7.2, w8.1, w8.2, w9.1, w9.2, w10.1, w10.2, w11.1, w11.2, a1, a2, a53, a54]; first | omega | exact bo_i _) rfl ?_
                try simp (disch := omega) only [uo_s, uo_n, up_s, up_n, w1, w2, w3, w4, w5, w6, w7.1, w7.2, w8.1, w8.2, w9.1, w9.2, w10.1, w10.2, w11.1, w11.2, a1, a2, a53, a54]
                refine e_step (pc' := 112) hK rfl rfl rfl ?_
                refine e_iald (pc' := 113) hK rfl (by simp (disch := omega) only [uo_s, uo_n, up_s, up_n, w1, w2, w3, w4, w5, w6, w7.1, w7.2, w8.1, w8.2, w9.1, w9.2, w10.1, w10.2, w11.1, w11.2, a1, a2, a53, a54]) (by first | omega | exact bo_i _) (by simp (disch := omega) only [uo_s, uo_n, up_s, up_n, w1, w2, w3, w4, w5, w6, w7.1, w7.2, w8.1, w8.2, w9.1, w9.2, w10.1, w10.2, w11.1, w11.2, a1, a2, a53, a54]; first | omega | exact bo_i _) rfl ?_
                try simp (disch := omega) only [uo_s, uo_n, up_s, up_n, w1, w2, w3, w4, w5, w6, w7.1, w7.2, w8.1, w8.2, w9.1, w9.2, w10.1, w10.2, w11.1, w11.2, a1, a2, a53, a54]
                refine e_step (pc' := 115) hK rfl rfl rfl ?_
                refine e_icmp (t := 120) (pc' := 118) hK rfl (by first | omega | exact bo_i _) (by first | omega | exact bo_i _) (by decide) rfl (fun hb115 => ?_) (fun hb115 => ?_)
                · replace hb115 := cq_lt.1.mp hb115
                  try simp only [bo_0, Bool.not_eq_false] at hb115
                  refine e_step (pc' := 121) hK rfl rfl rfl ?_
                  refine e_getR (ci := 1) (k := 4) (pc' := 124) hK rfl (by simp (disch := omega) only [uo_s, uo_n, up_s, up_n, w1, w2, w3, w4, w5, w6, w7.1, w7.2, w8.1, w8.2, w9.1, w9.2, w10.1, w10.2, w11.1, w11.2, a1, a2, a53, a54]) rfl rfl (by decide) (by decide) (by simp (disch := omega) only [uo_s, uo_n, up_s, up_n, w1, w2, w3, w4, w5, w6, w7.1, w7.2, w8.1, w8.2, w9.1, w9.2, w10.1, w10.2, w11.1, w11.2, a1, a2, a53, a54]; first | omega | exact bo_i _) rfl ?_
                  try simp (disch := omega) only [uo_s, uo_n, up_s, up_n, w1, w2, w3, w4, w5, w6, w7.1, w7.2, w8.1, w8.2, w9.1, w9.2, w10.1, w10.2, w11.1, w11.2, a1, a2, a53, a54]
                  refine e_step (pc' := 125) hK rfl rfl rfl ?_
                  refine e_step (pc' := 126) hK rfl rfl rfl ?_
                  refine e_getR (ci := 1) (k := 4) (pc' := 129) hK rfl (by simp (disch := omega) only [uo_s, uo_n, up_s, up_n, w1, w2, w3, w4, w5, w6, w7.1, w7.2, w8.1, w8.2, w9.1, w9.2, w10.1, w10.2, w11.1, w11.2, a1, a2, a53, a54]) rfl rfl (by decide) (by decide) (by simp (disch := omega) only [uo_s, uo_n, up_s, up_n, w1, w2, w3, w4, w5, w6, w7.1, w7.2, w8.1, w8.2, w9.1, w9.2, w10.1, w10.2, w11.1, w11.2, a1, a2, a53, a54]; first | omega | exact bo_i _) rfl ?_
                  try simp (disch := omega) only [uo_s, uo_n, up_s, up_n, w1, w2, w3, w4, w5, w6, w7.1, w7.2, w8.1, w8.2, w9.1, w9.2, w10.1, w10.2, w11.1, w11.2, a1, a2, a53, a54]
                  refine e_step (pc' := 130) hK rfl rfl rfl ?_
                  refine e_iald (pc' := 131) hK rfl (by simp (disch := omega) only [uo_s, uo_n, up_s, up_n, w1, w2, w3, w4, w5, w6, w7.1, w7.2, w8.1, w8.2, w9.1, w9.2, w10.1, w10.2, w11.1, w11.2, a1, a2, a53, a54]) (by first | omega | exact bo_i _) (by simp (disch := omega) only [uo_s, uo_n, up_s, up_n, w1, w2, w3, w4, w5, w6, w7.1, w7.2, w8.1, w8.2, w9.1, w9.2, w10.1, w10.2, w11.1, w11.2, a1, a2, a53, a54]; first | omega | exact bo_i _) rfl ?_
                  try simp (disch := omega) only [uo_s, uo_n, up_s, up_n, w1, w2, w3, w4, w5, w6, w7.1, w7.2, w8.1, w8.2, w9.1, w9.2, w10.1, w10.2, w11.1, w11.2, a1, a2, a53, a54]
                  refine e_step (pc' := 133) hK rfl rfl rfl ?_
                  refine e_step (pc' := 134) hK rfl rfl rfl ?_
                  refine e_step (pc' := 135) hK rfl rfl rfl ?_
                  refine e_step (pc' := 137) hK rfl rfl rfl ?_
                  refine e_step (pc' := 138) hK rfl rfl rfl ?_
                  refine e_step (pc' := 139) hK rfl rfl rfl ?_
                  refine e_iast (pc' := 140) hK rfl (by simp (disch := omega) only [uo_s, uo_n, up_s, up_n, w1, w2, w3, w4, w5, w6, w7.1, w7.2, w8.1, w8.2, w9.1, w9.2, w10.1, w10.2, w11.1, w11.2, a1, a2, a53, a54]) (by first | omega | exact bo_i _) (by simp (disch := omega) only [uo_s, uo_n, up_s, up_n, w1, w2, w3, w4, w5, w6, w7.1, w7.2, w8.1, w8.2, w9.1, w9.2, w10.1, w10.2, w11.1, w11.2, a1, a2, a53, a54]; first | omega | exact bo_i _) rfl ?_
                  refine e_step (pc' := 141) hK rfl rfl rfl ?_
                  refine e_getR (ci := 1) (k := 0) (pc' := 144) hK rfl (by simp (disch := omega) only [uo_s, uo_n, up_s, up_n, w1, w2, w3, w4, w5, w6, w7.1, w7.2, w8.1, w8.2, w9.1, w9.2, w10.1, w10.2, w11.1, w11.2, a1, a2, a53, a54]) rfl rfl (by decide) (by decide) (by simp (disch := omega) only [uo_s, uo_n, up_s, up_n, w1, w2, w3, w4, w5, w6, w7.1, w7.2, w8.1, w8.2, w9.1, w9.2, w10.1, w10.2, w11.1, w11.2, a1, a2, a53, a54]; first | omega | exact bo_i _) rfl ?_
                  try simp (disch := omega) only [uo_s, uo_n, up_s, up_n, w1, w2, w3, w4, w5, w6, w7.1, w7.2, w8.1, w8.2, w9.1, w9.2, w10.1, w10.2, w11.1, w11.2, a1, a2, a53, a54]
                  refine e_step (pc' := 145) hK rfl rfl rfl ?_
                  refine e_getI (ci := 1) (k := 5) (pc' := 148) hK rfl (by simp (disch := omega) only [uo_s, uo_n, up_s, up_n, w1, w2, w3, w4, w5, w6, w7.1, w7.2, w8.1, w8.2, w9.1, w9.2, w10.1, w10.2, w11.1, w11.2, a1, a2, a53, a54]) rfl rfl (by decide) (by decide) rfl ?_
                  try simp (disch := omega) only [uo_s, uo_n, up_s, up_n, w1, w2, w3, w4, w5, w6, w7.1, w7.2, w8.1, w8.2, w9.1, w9.2, w10.1, w10.2, w11.1, w11.2, a1, a2, a53, a54]
                  refine e_step (pc' := 149) hK rfl rfl rfl ?_
                  refine e_i2c (pc' := 150) hK rfl (by first | omega | exact bo_i _) (by first | omega | exact bo_i _) rfl ?_
                  refine e_cast (pc' := 151) hK rfl (by simp (disch := omega) only [uo_s, uo_n, up_s, up_n, w1, w2, w3, w4, w5, w6, w7.1, w7.2, w8.1, w8.2, w9.1, w9.2, w10.1, w10.2, w11.1, w11.2, a1, a2, a53, a54]) (by first | omega | exact bo_i _) (by simp (disch := omega) only [uo_s, uo_n, up_s, up_n, w1, w2, w3, w4, w5, w6, w7.1, w7.2, w8.1, w8.2, w9.1, w9.2, w10.1, w10.2, w11.1, w11.2, a1, a2, a53, a54]; first | omega | exact bo_i _) (by first | omega | exact bo_i _) (by first | omega | exact bo_i _) rfl ?_
                  refine e_step (pc' := 152) hK rfl rfl rfl ?_
                  refine e_step (pc' := 153) hK rfl rfl rfl ?_
                  refine e_getI (ci := 1) (k := 5) (pc' := 156) hK rfl (by simp (disch := omega) only [uo_s, uo_n, up_s, up_n, w1, w2, w3, w4, w5, w6, w7.1, w7.2, w8.1, w8.2, w9.1, w9.2, w10.1, w10.2, w11.1, w11.2, a1, a2, a53, a54]) rfl rfl (by decide) (by decide) rfl ?_
                  try simp (disch := omega) only [uo_s, uo_n, up_s, up_n, w1, w2, w3, w4, w5, w6, w7.1, w7.2, w8.1, w8.2, w9.1, w9.2, w10.1, w10.2, w11.1, w11.2, a1, a2, a53, a54]
                  refine e_step (pc' := 157) hK rfl rfl rfl ?_
                  refine e_step (pc' := 158) hK rfl rfl rfl ?_
                  refine e_put (ci := 1) (k := 5) (pc' := 161) hK rfl (by simp (disch := omega) only [uo_s, uo_n, up_s, up_n, w1, w2, w3, w4, w5, w6, w7.1, w7.2, w8.1, w8.2, w9.1, w9.2, w10.1, w10.2, w11.1, w11.2, a1, a2, a53, a54]) rfl rfl (by decide) rfl rfl ?_
                  refine e_step (pc' := 162) hK rfl rfl rfl ?_
                  refine e_getR (ci := 1) (k := 3) (pc' := 165) hK rfl (by simp (disch := omega) only [uo_s, uo_n, up_s, up_n, w1, w2, w3, w4, w5, w6, w7.1, w7.2, w8.1, w8.2, w9.1, w9.2, w10.1, w10.2, w11.1, w11.2, a1, a2, a53, a54]) rfl rfl (by decide) (by decide) (by simp (disch := omega) only [uo_s, uo_n, up_s, up_n, w1, w2, w3, w4, w5, w6, w7.1, w7.2, w8.1, w8.2, w9.1, w9.2, w10.1, w10.2, w11.1, w11.2, a1, a2, a53, a54]; first | omega | exact bo_i _) rfl ?_
                  try simp (disch := omega) only [uo_s, uo_n, up_s, up_n, w1, w2, w3, w4, w5, w6, w7.1, w7.2, w8.1, w8.2, w9.1, w9.2, w10.1, w10.2, w11.1, w11.2, a1, a2, a53, a54]
                  refine e_step (pc' := 166) hK rfl rfl rfl ?_
                  refine e_step (pc' := 167) hK rfl rfl rfl ?_
                  refine e_iald (pc' := 168) hK rfl (by simp (disch := omega) only [uo_s, uo_n, up_s, up_n, w1, w2, w3, w4, w5, w6, w7.1, w7.2, w8.1, w8.2, w9.1, w9.2, w10.1, w10.2, w11.1, w11.2, a1, a2, a53, a54]) (by first | omega | exact bo_i _) (by simp (disch := omega) only [uo_s, uo_n, up_s, up_n, w1, w2, w3, w4, w5, w6, w7.1, w7.2, w8.1, w8.2, w9.1, w9.2, w10.1, w10.2, w11.1, w11.2, a1, a2, a53, a54]; first | omega | exact bo_i _) rfl ?_
                  try simp (disch := omega) only [uo_s, uo_n, up_s, up_n, w1, w2, w3, w4, w5, w6, w7.1, w7.2, w8.1, w8.2, w9.1, w9.2, w10.1, w10.2, w11.1, w11.2, a1, a2, a53, a54]
                  refine e_step (pc' := 169) hK rfl rfl rfl ?_
                  refine e_step (pc' := 170) hK rfl rfl rfl ?_
                  refine e_iast (pc' := 171) hK rfl (by simp (disch := omega) only [uo_s, uo_n, up_s, up_n, w1, w2, w3, w4, w5, w6, w7.1, w7.2, w8.1, w8.2, w9.1, w9.2, w10.1, w10.2, w11.1, w11.2, a1, a2, a53, a54]) (by first | omega | exact bo_i _) (by simp (disch := omega) only [uo_s, uo_n, up_s, up_n, w1, w2, w3, w4, w5, w6, w7.1, w7.2, w8.1, w8.2, w9.1, w9.2, w10.1, w10.2, w11.1, w11.2, a1, a2, a53, a54]; first | omega | exact bo_i _) rfl ?_
                  refine e_step (pc' := 172) hK rfl rfl rfl ?_
                  refine e_ret hK rfl rfl (by first | rfl | (simp only [mv_ret]; rw [if_pos]; exact Or.inr ⟨rfl, by omega⟩)) ?_
                  have ha : px_a (px f n) n x := ⟨hb29, by omega, fun hgf => by omega, fun hgt h3 => (by rw [hb10] at hgt; cases hgt)⟩
                  refine ⟨rfl, Or.inl ⟨ha, rfl, ⟨⟨w0, ?_, ?_, ?_, ?_, ?_, ?_, ⟨?_, ?_⟩, ⟨?_, ?_⟩, ⟨?_, ?_⟩, ⟨?_, ?_⟩, ⟨?_, ?_⟩⟩, ?_, ?_, px_ok_up a3 ha, fun k h0 h1 => ?_, fun p h0 h1 => ?_⟩, fun b hb => ?_⟩⟩
                  · simp (disch := omega) only [uo_s, uo_n, up_s, up_n, w1, w2, w3, w4, w5, w6, w7.1, w7.2, w8.1, w8.2, w9.1, w9.2, w10.1, w10.2, w11.1, w11.2, a1, a2, a53, a54]
                  · simp (disch := omega) only [uo_s, uo_n, up_s, up_n, w1, w2, w3, w4, w5, w6, w7.1, w7.2, w8.1, w8.2, w9.1, w9.2, w10.1, w10.2, w11.1, w11.2, a1, a2, a53, a54]
                  · simp (disch := omega) only [uo_s, uo_n, up_s, up_n, w1, w2, w3, w4, w5, w6, w7.1, w7.2, w8.1, w8.2, w9.1, w9.2, w10.1, w10.2, w11.1, w11.2, a1, a2, a53, a54]
                  · simp (disch := omega) only [uo_s, uo_n, up_s, up_n, w1, w2, w3, w4, w5, w6, w7.1, w7.2, w8.1, w8.2, w9.1, w9.2, w10.1, w10.2, w11.1, w11.2, a1, a2, a53, a54]
                  · simp (disch := omega) only [uo_s, uo_n, up_s, up_n, w1, w2, w3, w4, w5, w6, w7.1, w7.2, w8.1, w8.2, w9.1, w9.2, w10.1, w10.2, w11.1, w11.2, a1, a2, a53, a54]
                  · simp (disch := omega) only [uo_s, uo_n, up_s, up_n, w1, w2, w3, w4, w5, w6, w7.1, w7.2, w8.1, w8.2, w9.1, w9.2, w10.1, w10.2, w11.1, w11.2, a1, a2, a53, a54]
                  · simp (disch := omega) only [uo_s, uo_n, up_s, up_n, w1, w2, w3, w4, w5, w6, w7.1, w7.2, w8.1, w8.2, w9.1, w9.2, w10.1, w10.2, w11.1, w11.2, a1, a2, a53, a54]
                  · simp (disch := omega) only [uo_s, uo_n, up_s, up_n, w1, w2, w3, w4, w5, w6, w7.1, w7.2, w8.1, w8.2, w9.1, w9.2, w10.1, w10.2, w11.1, w11.2, a1, a2, a53, a54]
                  · simp (disch := omega) only [uo_s, uo_n, up_s, up_n, w1, w2, w3, w4, w5, w6, w7.1, w7.2, w8.1, w8.2, w9.1, w9.2, w10.1, w10.2, w11.1, w11.2, a1, a2, a53, a54]
                  · simp (disch := omega) only [uo_s, uo_n, up_s, up_n, w1, w2, w3, w4, w5, w6, w7.1, w7.2, w8.1, w8.2, w9.1, w9.2, w10.1, w10.2, w11.1, w11.2, a1, a2, a53, a54]
                  · simp (disch := omega) only [uo_s, uo_n, up_s, up_n, w1, w2, w3, w4, w5, w6, w7.1, w7.2, w8.1, w8.2, w9.1, w9.2, w10.1, w10.2, w11.1, w11.2, a1, a2, a53, a54]
                  · simp (disch := omega) only [uo_s, uo_n, up_s, up_n, w1, w2, w3, w4, w5, w6, w7.1, w7.2, w8.1, w8.2, w9.1, w9.2, w10.1, w10.2, w11.1, w11.2, a1, a2, a53, a54]
                  · simp (disch := omega) only [uo_s, uo_n, up_s, up_n, w1, w2, w3, w4, w5, w6, w7.1, w7.2, w8.1, w8.2, w9.1, w9.2, w10.1, w10.2, w11.1, w11.2, a1, a2, a53, a54]
                  · simp (disch := omega) only [uo_s, uo_n, up_s, up_n, w1, w2, w3, w4, w5, w6, w7.1, w7.2, w8.1, w8.2, w9.1, w9.2, w10.1, w10.2, w11.1, w11.2, a1, a2, a53, a54]
                  · simp (disch := omega) only [uo_s, uo_n, up_s, up_n, w1, w2, w3, w4, w5, w6, w7.1, w7.2, w8.1, w8.2, w9.1, w9.2, w10.1, w10.2, w11.1, w11.2, a1, a2, a53, a54]
                  · simp (disch := omega) only [uo_s, uo_n, up_s, up_n, w1, w2, w3, w4, w5, w6, w7.1, w7.2, w8.1, w8.2, w9.1, w9.2, w10.1, w10.2, w11.1, w11.2, a1, a2, a53, a54]
                  · (simp (disch := omega) only [uo_s, uo_n, up_s, up_n, w1, w2, w3, w4, w5, w6, w7.1, w7.2, w8.1, w8.2, w9.1, w9.2, w10.1, w10.2, w11.1, w11.2, a1, a2, a53, a54]) <;> omega
                  · rw [px_up1]; unfold px_add; rw [hb10]; (simp (disch := omega) only [cond_true, cond_false, uo_s, uo_n, up_s, up_n, w1, w2, w3, w4, w5, w6, w7.1, w7.2, w8.1, w8.2, w9.1, w9.2, w10.1, w10.2, w11.1, w11.2, a1, a2, a53, a54])
                  · by_cases hk : k = n
                    · subst hk; simp (disch := omega) only [uo_s, uo_n, up_s, up_n, w1, w2, w3, w4, w5, w6, w7.1, w7.2, w8.1, w8.2, w9.1, w9.2, w10.1, w10.2, w11.1, w11.2, a1, a2, a53, a54]
                    · simp (disch := omega) only [uo_s, uo_n, up_s, up_n, w1, w2, w3, w4, w5, w6, w7.1, w7.2, w8.1, w8.2, w9.1, w9.2, w10.1, w10.2, w11.1, w11.2, a1, a2, a53, a54]; exact a4 k h0 (by omega)
                  · rw [px_up1] at h1 ⊢
                    unfold px_add at h1 ⊢
                    rw [hb10] at h1 ⊢
                    simp only [cond_false] at h1 ⊢
                    by_cases hp : p = (px f n).1
                    · subst hp
                      refine ⟨?_, ?_, ?_, ?_⟩
                      · simp (disch := omega) only [uo_s, uo_n, up_s, up_n, w1, w2, w3, w4, w5, w6, w7.1, w7.2, w8.1, w8.2, w9.1, w9.2, w10.1, w10.2, w11.1, w11.2, a1, a2, a53, a54]
                      · simp (disch := omega) only [uo_s, uo_n, up_s, up_n, w1, w2, w3, w4, w5, w6, w7.1, w7.2, w8.1, w8.2, w9.1, w9.2, w10.1, w10.2, w11.1, w11.2, a1, a2, a53, a54]
                      · (simp (disch := omega) only [uo_s, uo_n, up_s, up_n, w1, w2, w3, w4, w5, w6, w7.1, w7.2, w8.1, w8.2, w9.1, w9.2, w10.1, w10.2, w11.1, w11.2, a1, a2, a53, a54]) <;> omega
                      · simp (disch := omega) only [uo_s, uo_n, up_s, up_n, w1, w2, w3, w4, w5, w6, w7.1, w7.2, w8.1, w8.2, w9.1, w9.2, w10.1, w10.2, w11.1, w11.2, a1, a2, a53, a54]; rw [if_pos hb104]; omega
                    · have h8 := a5 p h0 (by omega)
                      refine ⟨?_, ?_, ?_, ?_⟩
                      · simp (disch := omega) only [uo_s, uo_n, up_s, up_n]; exact h8.1
                      · simp (disch := omega) only [uo_s, uo_n, up_s, up_n]; exact h8.2.1
                      · simp (disch := omega) only [uo_s, uo_n, up_s, up_n]; exact h8.2.2.1
                      · simp (disch := omega) only [uo_s, uo_n, up_s, up_n]; exact h8.2.2.2
                  · simp (disch := omega) only [uo_n]
                · replace hb115 := cq_lt.2.mp hb115
                  try simp only [bo_0, Bool.not_eq_false] at hb115
                  exfalso; first | omega | exact absurd trivial (by assumption) | (first | omega | exact bo_i _)
          · replace hb48 := cq_lt.2.mp hb48
            try simp only [bo_0, Bool.not_eq_false] at hb48
            refine e_step (pc' := 52) hK rfl rfl rfl ?_
            refine e_ret hK rfl rfl (by first | rfl | (simp only [mv_ret]; rw [if_pos]; exact Or.inr ⟨rfl, by omega⟩)) ?_
            refine ⟨rfl, Or.inr ⟨?_, rfl, rfl⟩⟩
            rintro ⟨q1, q2, q3, q4⟩
            first | exact absurd (by assumption) q1 | omega | (have q5 := q3 hb10; omega)
  · replace hb10 := cq_eq.2.mp hb10
    try simp only [bo_0, Bool.not_eq_false] at hb10
    have hg := hb10
    unfold px_g at hg
    simp only [Bool.and_eq_true, decide_eq_true_eq] at hg
    refine e_step (pc' := 14) hK rfl rfl rfl ?_
    refine e_getI (ci := 1) (k := 6) (pc' := 17) hK rfl (by simp (disch := omega) only [uo_s, uo_n, up_s, up_n, w1, w2, w3, w4, w5, w6, w7.1, w7.2, w8.1, w8.2, w9.1, w9.2, w10.1, w10.2, w11.1, w11.2, a1, a2, a53, a54]) rfl rfl (by decide) (by decide) rfl ?_
    try simp (disch := omega) only [uo_s, uo_n, up_s, up_n, w1, w2, w3, w4, w5, w6, w7.1, w7.2, w8.1, w8.2, w9.1, w9.2, w10.1, w10.2, w11.1, w11.2, a1, a2, a53, a54]
    refine e_step (pc' := 18) hK rfl rfl rfl ?_
    refine e_step (pc' := 19) hK rfl rfl rfl ?_
    refine e_goto (t := 26) hK rfl (by decide) ?_
    refine e_step (pc' := 27) hK rfl rfl rfl ?_
    try simp only [List.set_cons_zero, List.set_cons_succ]
    refine e_step (pc' := 28) hK rfl rfl rfl ?_
    refine e_step (pc' := 29) hK rfl rfl rfl ?_
    refine e_icmp (t := 51) (pc' := 32) hK rfl (by first | omega | exact bo_i _) (by first | omega | exact bo_i _) (by decide) rfl (fun hb29 => ?_) (fun hb29 => ?_)
    · replace hb29 := cq_eq.1.mp hb29
      try simp only [bo_0, Bool.not_eq_false] at hb29
      refine e_step (pc' := 52) hK rfl rfl rfl ?_
      refine e_ret hK rfl rfl (by first | rfl | (simp only [mv_ret]; rw [if_pos]; exact Or.inr ⟨rfl, by omega⟩)) ?_
      refine ⟨rfl, Or.inr ⟨?_, rfl, rfl⟩⟩
      rintro ⟨q1, q2, q3, q4⟩
      first | exact absurd (by assumption) q1 | omega | (have q5 := q3 hb10; omega)
    · replace hb29 := cq_eq.2.mp hb29
      try simp only [bo_0, Bool.not_eq_false] at hb29
      refine e_step (pc' := 33) hK rfl rfl rfl ?_
      refine e_getI (ci := 1) (k := 5) (pc' := 36) hK rfl (by simp (disch := omega) only [uo_s, uo_n, up_s, up_n, w1, w2, w3, w4, w5, w6, w7.1, w7.2, w8.1, w8.2, w9.1, w9.2, w10.1, w10.2, w11.1, w11.2, a1, a2, a53, a54]) rfl rfl (by decide) (by decide) rfl ?_
      try simp (disch := omega) only [uo_s, uo_n, up_s, up_n, w1, w2, w3, w4, w5, w6, w7.1, w7.2, w8.1, w8.2, w9.1, w9.2, w10.1, w10.2, w11.1, w11.2, a1, a2, a53, a54]
      refine e_step (pc' := 38) hK rfl rfl rfl ?_
      refine e_icmp (t := 51) (pc' := 41) hK rfl (by first | omega | exact bo_i _) (by first | omega | exact bo_i _) (by decide) rfl (fun hb38 => ?_) (fun hb38 => ?_)
      · replace hb38 := cq_ge.1.mp hb38
        try simp only [bo_0, Bool.not_eq_false] at hb38
        refine e_step (pc' := 52) hK rfl rfl rfl ?_
        refine e_ret hK rfl rfl (by first | rfl | (simp only [mv_ret]; rw [if_pos]; exact Or.inr ⟨rfl, by omega⟩)) ?_
        refine ⟨rfl, Or.inr ⟨?_, rfl, rfl⟩⟩
        rintro ⟨q1, q2, q3, q4⟩
        first | exact absurd (by assumption) q1 | omega | (have q5 := q3 hb10; omega)
      · replace hb38 := cq_ge.2.mp hb38
        try simp only [bo_0, Bool.not_eq_false] at hb38
        refine e_step (pc' := 42) hK rfl rfl rfl ?_
        refine e_if (t := 51) (pc' := 45) hK rfl (by first | omega | exact bo_i _) (by decide) rfl (fun hb42 => ?_) (fun hb42 => ?_)
        · replace hb42 := cq_lt.1.mp hb42
          try simp only [bo_0, Bool.not_eq_false] at hb42
          exfalso; first | omega | exact absurd trivial (by assumption) | (first | omega | exact bo_i _)
        · replace hb42 := cq_lt.2.mp hb42
          try simp only [bo_0, Bool.not_eq_false] at hb42
          refine e_step (pc' := 46) hK rfl rfl rfl ?_
          refine e_step (pc' := 48) hK rfl rfl rfl ?_
          refine e_icmp (t := 53) (pc' := 51) hK rfl (by first | omega | exact bo_i _) (by first | omega | exact bo_i _) (by decide) rfl (fun hb48 => ?_) (fun hb48 => ?_)
          · replace hb48 := cq_lt.1.mp hb48
            try simp only [bo_0, Bool.not_eq_false] at hb48
            refine e_step (pc' := 54) hK rfl rfl rfl ?_
            refine e_step (pc' := 55) hK rfl rfl rfl ?_
            refine e_getI (ci := 1) (k := 6) (pc' := 58) hK rfl (by simp (disch := omega) only [uo_s, uo_n, up_s, up_n, w1, w2, w3, w4, w5, w6, w7.1, w7.2, w8.1, w8.2, w9.1, w9.2, w10.1, w10.2, w11.1, w11.2, a1, a2, a53, a54]) rfl rfl (by decide) (by decide) rfl ?_
            try simp (disch := omega) only [uo_s, uo_n, up_s, up_n, w1, w2, w3, w4, w5, w6, w7.1, w7.2, w8.1, w8.2, w9.1, w9.2, w10.1, w10.2, w11.1, w11.2, a1, a2, a53, a54]
            refine e_icmp (t := 102) (pc' := 61) hK rfl (by first | omega | exact bo_i _) (by first | omega | exact bo_i _) (by decide) rfl (fun hb58 => ?_) (fun hb58 => ?_)
            · replace hb58 := cq_ne.1.mp hb58
              try simp only [bo_0, Bool.not_eq_false] at hb58
              refine e_step (pc' := 103) hK rfl rfl rfl ?_
              refine e_step (pc' := 104) hK rfl rfl rfl ?_
              refine e_icmp (t := 140) (pc' := 107) hK rfl (by first | omega | exact bo_i _) (by first | omega | exact bo_i _) (by decide) rfl (fun hb104 => ?_) (fun hb104 => ?_)
              · replace hb104 := cq_ne.1.mp hb104
                try simp only [bo_0, Bool.not_eq_false] at hb104
                refine e_step (pc' := 141) hK rfl rfl rfl ?_
                refine e_getR (ci := 1) (k := 0) (pc' := 144) hK rfl (by simp (disch := omega) only [uo_s, uo_n, up_s, up_n, w1, w2, w3, w4, w5, w6, w7.1, w7.2, w8.1, w8.2, w9.1, w9.2, w10.1, w10.2, w11.1, w11.2, a1, a2, a53, a54]) rfl rfl (by decide) (by decide) (by simp (disch := omega) only [uo_s, uo_n, up_s, up_n, w1, w2, w3, w4, w5, w6, w7.1, w7.2, w8.1, w8.2, w9.1, w9.2, w10.1, w10.2, w11.1, w11.2, a1, a2, a53, a54]; first | omega | exact bo_i _) rfl ?_
                try simp (disch := omega) only [uo_s, uo_n, up_s, up_n, w1, w2, w3, w4, w5, w6, w7.1, w7.2, w8.1, w8.2, w9.1, w9.2, w10.1, w10.2, w11.1, w11.2, a1, a2, a53, a54]
                refine e_step (pc' := 145) hK rfl rfl rfl ?_
                refine e_getI (ci := 1) (k := 5) (pc' := 148) hK rfl (by simp (disch := omega) only [uo_s, uo_n, up_s, up_n, w1, w2, w3, w4, w5, w6, w7.1, w7.2, w8.1, w8.2, w9.1, w9.2, w10.1, w10.2, w11.1, w11.2, a1, a2, a53, a54]) rfl rfl (by decide) (by decide) rfl ?_
                try simp (disch := omega) only [uo_s, uo_n, up_s, up_n, w1, w2, w3, w4, w5, w6, w7.1, w7.2, w8.1, w8.2, w9.1, w9.2, w10.1, w10.2, w11.1, w11.2, a1, a2, a53, a54]
                refine e_step (pc' := 149) hK rfl rfl rfl ?_
                refine e_i2c (pc' := 150) hK rfl (by first | omega | exact bo_i _) (by first | omega | exact bo_i _) rfl ?_
                refine e_cast (pc' := 151) hK rfl (by simp (disch := omega) only [uo_s, uo_n, up_s, up_n, w1, w2, w3, w4, w5, w6, w7.1, w7.2, w8.1, w8.2, w9.1, w9.2, w10.1, w10.2, w11.1, w11.2, a1, a2, a53, a54]) (by first | omega | exact bo_i _) (by simp (disch := omega) only [uo_s, uo_n, up_s, up_n, w1, w2, w3, w4, w5, w6, w7.1, w7.2, w8.1, w8.2, w9.1, w9.2, w10.1, w10.2, w11.1, w11.2, a1, a2, a53, a54]; first | omega | exact bo_i _) (by first | omega | exact bo_i _) (by first | omega | exact bo_i _) rfl ?_
                refine e_step (pc' := 152) hK rfl rfl rfl ?_
                refine e_step (pc' := 153) hK rfl rfl rfl ?_
                refine e_getI (ci := 1) (k := 5) (pc' := 156) hK rfl (by simp (disch := omega) only [uo_s, uo_n, up_s, up_n, w1, w2, w3, w4, w5, w6, w7.1, w7.2, w8.1, w8.2, w9.1, w9.2, w10.1, w10.2, w11.1, w11.2, a1, a2, a53, a54]) rfl rfl (by decide) (by decide) rfl ?_
                try simp (disch := omega) only [uo_s, uo_n, up_s, up_n, w1, w2, w3, w4, w5, w6, w7.1, w7.2, w8.1, w8.2, w9.1, w9.2, w10.1, w10.2, w11.1, w11.2, a1, a2, a53, a54]
                refine e_step (pc' := 157) hK rfl rfl rfl ?_
                refine e_step (pc' := 158) hK rfl rfl rfl ?_
                refine e_put (ci := 1) (k := 5) (pc' := 161) hK rfl (by simp (disch := omega) only [uo_s, uo_n, up_s, up_n, w1, w2, w3, w4, w5, w6, w7.1, w7.2, w8.1, w8.2, w9.1, w9.2, w10.1, w10.2, w11.1, w11.2, a1, a2, a53, a54]) rfl rfl (by decide) rfl rfl ?_
                refine e_step (pc' := 162) hK rfl rfl rfl ?_
                refine e_getR (ci := 1) (k := 3) (pc' := 165) hK rfl (by simp (disch := omega) only [uo_s, uo_n, up_s, up_n, w1, w2, w3, w4, w5, w6, w7.1, w7.2, w8.1, w8.2, w9.1, w9.2, w10.1, w10.2, w11.1, w11.2, a1, a2, a53, a54]) rfl rfl (by decide) (by decide) (by simp (disch := omega) only [uo_s, uo_n, up_s, up_n, w1, w2, w3, w4, w5, w6, w7.1, w7.2, w8.1, w8.2, w9.1, w9.2, w10.1, w10.2, w11.1, w11.2, a1, a2, a53, a54]; first | omega | exact bo_i _) rfl ?_
                try simp (disch := omega) only [uo_s, uo_n, up_s, up_n, w1, w2, w3, w4, w5, w6, w7.1, w7.2, w8.1, w8.2, w9.1, w9.2, w10.1, w10.2, w11.1, w11.2, a1, a2, a53, a54]
                refine e_step (pc' := 166) hK rfl rfl rfl ?_
                refine e_step (pc' := 167) hK rfl rfl rfl ?_
                refine e_iald (pc' := 168) hK rfl (by simp (disch := omega) only [uo_s, uo_n, up_s, up_n, w1, w2, w3, w4, w5, w6, w7.1, w7.2, w8.1, w8.2, w9.1, w9.2, w10.1, w10.2, w11.1, w11.2, a1, a2, a53, a54]) (by first | omega | exact bo_i _) (by simp (disch := omega) only [uo_s, uo_n, up_s, up_n, w1, w2, w3, w4, w5, w6, w7.1, w7.2, w8.1, w8.2, w9.1, w9.2, w10.1, w10.2, w11.1, w11.2, a1, a2, a53, a54]; first | omega | exact bo_i _) rfl ?_
                try simp (disch := omega) only [uo_s, uo_n, up_s, up_n, w1, w2, w3, w4, w5, w6, w7.1, w7.2, w8.1, w8.2, w9.1, w9.2, w10.1, w10.2, w11.1, w11.2, a1, a2, a53, a54]
                refine e_step (pc' := 169) hK rfl rfl rfl ?_
                refine e_step (pc' := 170) hK rfl rfl rfl ?_
                refine e_iast (pc' := 171) hK rfl (by simp (disch := omega) only [uo_s, uo_n, up_s, up_n, w1, w2, w3, w4, w5, w6, w7.1, w7.2, w8.1, w8.2, w9.1, w9.2, w10.1, w10.2, w11.1, w11.2, a1, a2, a53, a54]) (by first | omega | exact bo_i _) (by simp (disch := omega) only [uo_s, uo_n, up_s, up_n, w1, w2, w3, w4, w5, w6, w7.1, w7.2, w8.1, w8.2, w9.1, w9.2, w10.1, w10.2, w11.1, w11.2, a1, a2, a53, a54]; first | omega | exact bo_i _) rfl ?_
                refine e_step (pc' := 172) hK rfl rfl rfl ?_
                refine e_ret hK rfl rfl (by first | rfl | (simp only [mv_ret]; rw [if_pos]; exact Or.inr ⟨rfl, by omega⟩)) ?_
                have ha : px_a (px f n) n x := ⟨hb29, by omega, fun hgf => (by rw [hb10] at hgf; cases hgf), fun hgt h3 => absurd h3 hb104⟩
                refine ⟨rfl, Or.inl ⟨ha, rfl, ⟨⟨w0, ?_, ?_, ?_, ?_, ?_, ?_, ⟨?_, ?_⟩, ⟨?_, ?_⟩, ⟨?_, ?_⟩, ⟨?_, ?_⟩, ⟨?_, ?_⟩⟩, ?_, ?_, px_ok_up a3 ha, fun k h0 h1 => ?_, fun p h0 h1 => ?_⟩, fun b hb => ?_⟩⟩
                · simp (disch := omega) only [uo_s, uo_n, up_s, up_n, w1, w2, w3, w4, w5, w6, w7.1, w7.2, w8.1, w8.2, w9.1, w9.2, w10.1, w10.2, w11.1, w11.2, a1, a2, a53, a54]
                · simp (disch := omega) only [uo_s, uo_n, up_s, up_n, w1, w2, w3, w4, w5, w6, w7.1, w7.2, w8.1, w8.2, w9.1, w9.2, w10.1, w10.2, w11.1, w11.2, a1, a2, a53, a54]
                · simp (disch := omega) only [uo_s, uo_n, up_s, up_n, w1, w2, w3, w4, w5, w6, w7.1, w7.2, w8.1, w8.2, w9.1, w9.2, w10.1, w10.2, w11.1, w11.2, a1, a2, a53, a54]
                · simp (disch := omega) only [uo_s, uo_n, up_s, up_n, w1, w2, w3, w4, w5, w6, w7.1, w7.2, w8.1, w8.2, w9.1, w9.2, w10.1, w10.2, w11.1, w11.2, a1, a2, a53, a54]
                · simp (disch := omega) only [uo_s, uo_n, up_s, up_n, w1, w2, w3, w4, w5, w6, w7.1, w7.2, w8.1, w8.2, w9.1, w9.2, w10.1, w10.2, w11.1, w11.2, a1, a2, a53, a54]
                · simp (disch := omega) only [uo_s, uo_n, up_s, up_n, w1, w2, w3, w4, w5, w6, w7.1, w7.2, w8.1, w8.2, w9.1, w9.2, w10.1, w10.2, w11.1, w11.2, a1, a2, a53, a54]
                · simp (disch := omega) only [uo_s, uo_n, up_s, up_n, w1, w2, w3, w4, w5, w6, w7.1, w7.2, w8.1, w8.2, w9.1, w9.2, w10.1, w10.2, w11.1, w11.2, a1, a2, a53, a54]
                · simp (disch := omega) only [uo_s, uo_n, up_s, up_n, w1, w2, w3, w4, w5, w6, w7.1, w7.2, w8.1, w8.2, w9.1, w9.2, w10.1, w10.2, w11.1, w11.2, a1, a2, a53, a54]
                · simp (disch := omega) only [uo_s, uo_n, up_s, up_n, w1, w2, w3, w4, w5, w6, w7.1, w7.2, w8.1, w8.2, w9.1, w9.2, w10.1, w10.2, w11.1, w11.2, a1, a2, a53, a54]
                · simp (disch := omega) only [uo_s, uo_n, up_s, up_n, w1, w2, w3, w4, w5, w6, w7.1, w7.2, w8.1, w8.2, w9.1, w9.2, w10.1, w10.2, w11.1, w11.2, a1, a2, a53, a54]
                · simp (disch := omega) only [uo_s, uo_n, up_s, up_n, w1, w2, w3, w4, w5, w6, w7.1, w7.2, w8.1, w8.2, w9.1, w9.2, w10.1, w10.2, w11.1, w11.2, a1, a2, a53, a54]
                · simp (disch := omega) only [uo_s, uo_n, up_s, up_n, w1, w2, w3, w4, w5, w6, w7.1, w7.2, w8.1, w8.2, w9.1, w9.2, w10.1, w10.2, w11.1, w11.2, a1, a2, a53, a54]
                · simp (disch := omega) only [uo_s, uo_n, up_s, up_n, w1, w2, w3, w4, w5, w6, w7.1, w7.2, w8.1, w8.2, w9.1, w9.2, w10.1, w10.2, w11.1, w11.2, a1, a2, a53, a54]
                · simp (disch := omega) only [uo_s, uo_n, up_s, up_n, w1, w2, w3, w4, w5, w6, w7.1, w7.2, w8.1, w8.2, w9.1, w9.2, w10.1, w10.2, w11.1, w11.2, a1, a2, a53, a54]
                · simp (disch := omega) only [uo_s, uo_n, up_s, up_n, w1, w2, w3, w4, w5, w6, w7.1, w7.2, w8.1, w8.2, w9.1, w9.2, w10.1, w10.2, w11.1, w11.2, a1, a2, a53, a54]
                · simp (disch := omega) only [uo_s, uo_n, up_s, up_n, w1, w2, w3, w4, w5, w6, w7.1, w7.2, w8.1, w8.2, w9.1, w9.2, w10.1, w10.2, w11.1, w11.2, a1, a2, a53, a54]
                · (simp (disch := omega) only [uo_s, uo_n, up_s, up_n, w1, w2, w3, w4, w5, w6, w7.1, w7.2, w8.1, w8.2, w9.1, w9.2, w10.1, w10.2, w11.1, w11.2, a1, a2, a53, a54]) <;> omega
                · rw [px_up1]; unfold px_add; rw [hb10]; (simp (disch := omega) only [cond_true, cond_false, uo_s, uo_n, up_s, up_n, w1, w2, w3, w4, w5, w6, w7.1, w7.2, w8.1, w8.2, w9.1, w9.2, w10.1, w10.2, w11.1, w11.2, a1, a2, a53, a54])
                · by_cases hk : k = n
                  · subst hk; simp (disch := omega) only [uo_s, uo_n, up_s, up_n, w1, w2, w3, w4, w5, w6, w7.1, w7.2, w8.1, w8.2, w9.1, w9.2, w10.1, w10.2, w11.1, w11.2, a1, a2, a53, a54]
                  · simp (disch := omega) only [uo_s, uo_n, up_s, up_n, w1, w2, w3, w4, w5, w6, w7.1, w7.2, w8.1, w8.2, w9.1, w9.2, w10.1, w10.2, w11.1, w11.2, a1, a2, a53, a54]; exact a4 k h0 (by omega)
                · rw [px_up1] at h1 ⊢
                  unfold px_add at h1 ⊢
                  rw [hb10] at h1 ⊢
                  simp only [cond_true] at h1 ⊢
                  have h8 := a5 p h0 h1
                  by_cases hp : p = (px f n).1 - 1
                  · subst hp
                    refine ⟨?_, ?_, ?_, ?_⟩
                    · simp (disch := omega) only [uo_s, uo_n, up_s, up_n]; exact h8.1
                    · simp (disch := omega) only [uo_s, uo_n, up_s, up_n]; exact h8.2.1
                    · simp (disch := omega) only [uo_s, uo_n, up_s, up_n, w1, w2, w3, w4, w5, w6, w7.1, w7.2, w8.1, w8.2, w9.1, w9.2, w10.1, w10.2, w11.1, w11.2, a1, a2, a53, a54]
                    · simp (disch := omega) only [uo_s, uo_n, up_s, up_n, w1, w2, w3, w4, w5, w6, w7.1, w7.2, w8.1, w8.2, w9.1, w9.2, w10.1, w10.2, w11.1, w11.2, a1, a2, a53, a54]; rw [if_neg hb104]
                  · refine ⟨?_, ?_, ?_, ?_⟩
                    · simp (disch := omega) only [uo_s, uo_n, up_s, up_n]; exact h8.1
                    · simp (disch := omega) only [uo_s, uo_n, up_s, up_n]; exact h8.2.1
                    · simp (disch := omega) only [uo_s, uo_n, up_s, up_n]; exact h8.2.2.1
                    · simp (disch := omega) only [uo_s, uo_n, up_s, up_n]; exact h8.2.2.2
                · simp (disch := omega) only [uo_n]
              · replace hb104 := cq_ne.2.mp hb104
                try simp only [bo_0, Bool.not_eq_false] at hb104
                have i6 := i5 ((px f n).1 - 1)
                refine e_step (pc' := 108) hK rfl rfl rfl ?_
                refine e_getR (ci := 1) (k := 3) (pc' := 111) hK rfl (by simp (disch := omega) only [uo_s, uo_n, up_s, up_n, w1, w2, w3, w4, w5, w6, w7.1, w7.2, w8.1, w8.2, w9.1, w9.2, w10.1, w10.2, w11.1, w11.2, a1, a2, a53, a54]) rfl rfl (by decide) (by decide) (by simp (disch := omega) only [uo_s, uo_n, up_s, up_n, w1, w2, w3, w4, w5, w6, w7.1, w7.2, w8.1, w8.2, w9.1, w9.2, w10.1, w10.2, w11.1, w11.2, a1, a2, a53, a54]; first | omega | exact bo_i _) rfl ?_
                try simp (disch := omega) only [uo_s, uo_n, up_s, up_n, w1, w2, w3, w4, w5, w6, w7.1, w7.2, w8.1, w8.2, w9.1, w9.2, w10.1, w10.2, w11.1, w11.2, a1, a2, a53, a54]
                refine e_step (pc' := 112) hK rfl rfl rfl ?_
                refine e_iald (pc' := 113) hK rfl (by simp (disch := omega) only [uo_s, uo_n, up_s, up_n, w1, w2, w3, w4, w5, w6, w7.1, w7.2, w8.1, w8.2, w9.1, w9.2, w10.1, w10.2, w11.1, w11.2, a1, a2, a53, a54]) (by first | omega | exact bo_i _) (by simp (disch := omega) only [uo_s, uo_n, up_s, up_n, w1, w2, w3, w4, w5, w6, w7.1, w7.2, w8.1, w8.2, w9.1, w9.2, w10.1, w10.2, w11.1, w11.2, a1, a2, a53, a54]; first | omega | exact bo_i _) rfl ?_
                try simp (disch := omega) only [uo_s, uo_n, up_s, up_n, w1, w2, w3, w4, w5, w6, w7.1, w7.2, w8.1, w8.2, w9.1, w9.2, w10.1, w10.2, w11.1, w11.2, a1, a2, a53, a54]
                refine e_step (pc' := 115) hK rfl rfl rfl ?_
                refine e_icmp (t := 120) (pc' := 118) hK rfl (by first | omega | exact bo_i _) (by first | omega | exact bo_i _) (by decide) rfl (fun hb115 => ?_) (fun hb115 => ?_)
                · replace hb115 := cq_lt.1.mp hb115
                  try simp only [bo_0, Bool.not_eq_false] at hb115
                  have i7 := i5 ((px f n).1 - 1) (by omega) (by omega)
                  refine e_step (pc' := 121) hK rfl rfl rfl ?_
                  refine e_getR (ci := 1) (k := 4) (pc' := 124) hK rfl (by simp (disch := omega) only [uo_s, uo_n, up_s, up_n, w1, w2, w3, w4, w5, w6, w7.1, w7.2, w8.1, w8.2, w9.1, w9.2, w10.1, w10.2, w11.1, w11.2, a1, a2, a53, a54]) rfl rfl (by decide) (by decide) (by simp (disch := omega) only [uo_s, uo_n, up_s, up_n, w1, w2, w3, w4, w5, w6, w7.1, w7.2, w8.1, w8.2, w9.1, w9.2, w10.1, w10.2, w11.1, w11.2, a1, a2, a53, a54]; first | omega | exact bo_i _) rfl ?_
                  try simp (disch := omega) only [uo_s, uo_n, up_s, up_n, w1, w2, w3, w4, w5, w6, w7.1, w7.2, w8.1, w8.2, w9.1, w9.2, w10.1, w10.2, w11.1, w11.2, a1, a2, a53, a54]
                  refine e_step (pc' := 125) hK rfl rfl rfl ?_
                  refine e_step (pc' := 126) hK rfl rfl rfl ?_
                  refine e_getR (ci := 1) (k := 4) (pc' := 129) hK rfl (by simp (disch := omega) only [uo_s, uo_n, up_s, up_n, w1, w2, w3, w4, w5, w6, w7.1, w7.2, w8.1, w8.2, w9.1, w9.2, w10.1, w10.2, w11.1, w11.2, a1, a2, a53, a54]) rfl rfl (by decide) (by decide) (by simp (disch := omega) only [uo_s, uo_n, up_s, up_n, w1, w2, w3, w4, w5, w6, w7.1, w7.2, w8.1, w8.2, w9.1, w9.2, w10.1, w10.2, w11.1, w11.2, a1, a2, a53, a54]; first | omega | exact bo_i _) rfl ?_
                  try simp (disch := omega) only [uo_s, uo_n, up_s, up_n, w1, w2, w3, w4, w5, w6, w7.1, w7.2, w8.1, w8.2, w9.1, w9.2, w10.1, w10.2, w11.1, w11.2, a1, a2, a53, a54]
                  refine e_step (pc' := 130) hK rfl rfl rfl ?_
                  refine e_iald (pc' := 131) hK rfl (by simp (disch := omega) only [uo_s, uo_n, up_s, up_n, w1, w2, w3, w4, w5, w6, w7.1, w7.2, w8.1, w8.2, w9.1, w9.2, w10.1, w10.2, w11.1, w11.2, a1, a2, a53, a54]) (by first | omega | exact bo_i _) (by simp (disch := omega) only [uo_s, uo_n, up_s, up_n, w1, w2, w3, w4, w5, w6, w7.1, w7.2, w8.1, w8.2, w9.1, w9.2, w10.1, w10.2, w11.1, w11.2, a1, a2, a53, a54]; first | omega | exact bo_i _) rfl ?_
                  try simp (disch := omega) only [uo_s, uo_n, up_s, up_n, w1, w2, w3, w4, w5, w6, w7.1, w7.2, w8.1, w8.2, w9.1, w9.2, w10.1, w10.2, w11.1, w11.2, a1, a2, a53, a54]
                  refine e_step (pc' := 133) hK rfl rfl rfl ?_
                  refine e_step (pc' := 134) hK rfl rfl rfl ?_
                  refine e_step (pc' := 135) hK rfl rfl rfl ?_
                  refine e_step (pc' := 137) hK rfl rfl rfl ?_
                  refine e_step (pc' := 138) hK rfl rfl rfl ?_
                  refine e_step (pc' := 139) hK rfl rfl rfl ?_
                  refine e_iast (pc' := 140) hK rfl (by simp (disch := omega) only [uo_s, uo_n, up_s, up_n, w1, w2, w3, w4, w5, w6, w7.1, w7.2, w8.1, w8.2, w9.1, w9.2, w10.1, w10.2, w11.1, w11.2, a1, a2, a53, a54]) (by first | omega | exact bo_i _) (by simp (disch := omega) only [uo_s, uo_n, up_s, up_n, w1, w2, w3, w4, w5, w6, w7.1, w7.2, w8.1, w8.2, w9.1, w9.2, w10.1, w10.2, w11.1, w11.2, a1, a2, a53, a54]; first | omega | exact bo_i _) rfl ?_
                  refine e_step (pc' := 141) hK rfl rfl rfl ?_
                  refine e_getR (ci := 1) (k := 0) (pc' := 144) hK rfl (by simp (disch := omega) only [uo_s, uo_n, up_s, up_n, w1, w2, w3, w4, w5, w6, w7.1, w7.2, w8.1, w8.2, w9.1, w9.2, w10.1, w10.2, w11.1, w11.2, a1, a2, a53, a54]) rfl rfl (by decide) (by decide) (by simp (disch := omega) only [uo_s, uo_n, up_s, up_n, w1, w2, w3, w4, w5, w6, w7.1, w7.2, w8.1, w8.2, w9.1, w9.2, w10.1, w10.2, w11.1, w11.2, a1, a2, a53, a54]; first | omega | exact bo_i _) rfl ?_
                  try simp (disch := omega) only [uo_s, uo_n, up_s, up_n, w1, w2, w3, w4, w5, w6, w7.1, w7.2, w8.1, w8.2, w9.1, w9.2, w10.1, w10.2, w11.1, w11.2, a1, a2, a53, a54]
                  refine e_step (pc' := 145) hK rfl rfl rfl ?_
                  refine e_getI (ci := 1) (k := 5) (pc' := 148) hK rfl (by simp (disch := omega) only [uo_s, uo_n, up_s, up_n, w1, w2, w3, w4, w5, w6, w7.1, w7.2, w8.1, w8.2, w9.1, w9.2, w10.1, w10.2, w11.1, w11.2, a1, a2, a53, a54]) rfl rfl (by decide) (by decide) rfl ?_
                  try simp (disch := omega) only [uo_s, uo_n, up_s, up_n, w1, w2, w3, w4, w5, w6, w7.1, w7.2, w8.1, w8.2, w9.1, w9.2, w10.1, w10.2, w11.1, w11.2, a1, a2, a53, a54]
                  refine e_step (pc' := 149) hK rfl rfl rfl ?_
                  refine e_i2c (pc' := 150) hK rfl (by first | omega | exact bo_i _) (by first | omega | exact bo_i _) rfl ?_
                  refine e_cast (pc' := 151) hK rfl (by simp (disch := omega) only [uo_s, uo_n, up_s, up_n, w1, w2, w3, w4, w5, w6, w7.1, w7.2, w8.1, w8.2, w9.1, w9.2, w10.1, w10.2, w11.1, w11.2, a1, a2, a53, a54]) (by first | omega | exact bo_i _) (by simp (disch := omega) only [uo_s, uo_n, up_s, up_n, w1, w2, w3, w4, w5, w6, w7.1, w7.2, w8.1, w8.2, w9.1, w9.2, w10.1, w10.2, w11.1, w11.2, a1, a2, a53, a54]; first | omega | exact bo_i _) (by first | omega | exact bo_i _) (by first | omega | exact bo_i _) rfl ?_
                  refine e_step (pc' := 152) hK rfl rfl rfl ?_
                  refine e_step (pc' := 153) hK rfl rfl rfl ?_
                  refine e_getI (ci := 1) (k := 5) (pc' := 156) hK rfl (by simp (disch := omega) only [uo_s, uo_n, up_s, up_n, w1, w2, w3, w4, w5, w6, w7.1, w7.2, w8.1, w8.2, w9.1, w9.2, w10.1, w10.2, w11.1, w11.2, a1, a2, a53, a54]) rfl rfl (by decide) (by decide) rfl ?_
                  try simp (disch := omega) only [uo_s, uo_n, up_s, up_n, w1, w2, w3, w4, w5, w6, w7.1, w7.2, w8.1, w8.2, w9.1, w9.2, w10.1, w10.2, w11.1, w11.2, a1, a2, a53, a54]
                  refine e_step (pc' := 157) hK rfl rfl rfl ?_
                  refine e_step (pc' := 158) hK rfl rfl rfl ?_
                  refine e_put (ci := 1) (k := 5) (pc' := 161) hK rfl (by simp (disch := omega) only [uo_s, uo_n, up_s, up_n, w1, w2, w3, w4, w5, w6, w7.1, w7.2, w8.1, w8.2, w9.1, w9.2, w10.1, w10.2, w11.1, w11.2, a1, a2, a53, a54]) rfl rfl (by decide) rfl rfl ?_
                  refine e_step (pc' := 162) hK rfl rfl rfl ?_
                  refine e_getR (ci := 1) (k := 3) (pc' := 165) hK rfl (by simp (disch := omega) only [uo_s, uo_n, up_s, up_n, w1, w2, w3, w4, w5, w6, w7.1, w7.2, w8.1, w8.2, w9.1, w9.2, w10.1, w10.2, w11.1, w11.2, a1, a2, a53, a54]) rfl rfl (by decide) (by decide) (by simp (disch := omega) only [uo_s, uo_n, up_s, up_n, w1, w2, w3, w4, w5, w6, w7.1, w7.2, w8.1, w8.2, w9.1, w9.2, w10.1, w10.2, w11.1, w11.2, a1, a2, a53, a54]; first | omega | exact bo_i _) rfl ?_
                  try simp (disch := omega) only [uo_s, uo_n, up_s, up_n, w1, w2, w3, w4, w5, w6, w7.1, w7.2, w8.1, w8.2, w9.1, w9.2, w10.1, w10.2, w11.1, w11.2, a1, a2, a53, a54]
                  refine e_step (pc' := 166) hK rfl rfl rfl ?_
                  refine e_step (pc' := 167) hK rfl rfl rfl ?_
                  refine e_iald (pc' := 168) hK rfl (by simp (disch := omega) only [uo_s, uo_n, up_s, up_n, w1, w2, w3, w4, w5, w6, w7.1, w7.2, w8.1, w8.2, w9.1, w9.2, w10.1, w10.2, w11.1, w11.2, a1, a2, a53, a54]) (by first | omega | exact bo_i _) (by simp (disch := omega) only [uo_s, uo_n, up_s, up_n, w1, w2, w3, w4, w5, w6, w7.1, w7.2, w8.1, w8.2, w9.1, w9.2, w10.1, w10.2, w11.1, w11.2, a1, a2, a53, a54]; first | omega | exact bo_i _) rfl ?_
                  try simp (disch := omega) only [uo_s, uo_n, up_s, up_n, w1, w2, w3, w4, w5, w6, w7.1, w7.2, w8.1, w8.2, w9.1, w9.2, w10.1, w10.2, w11.1, w11.2, a1, a2, a53, a54]
                  refine e_step (pc' := 169) hK rfl rfl rfl ?_
                  refine e_step (pc' := 170) hK rfl rfl rfl ?_
                  refine e_iast (pc' := 171) hK rfl (by simp (disch := omega) only [uo_s, uo_n, up_s, up_n, w1, w2, w3, w4, w5, w6, w7.1, w7.2, w8.1, w8.2, w9.1, w9.2, w10.1, w10.2, w11.1, w11.2, a1, a2, a53, a54]) (by first | omega | exact bo_i _) (by simp (disch := omega) only [uo_s, uo_n, up_s, up_n, w1, w2, w3, w4, w5, w6, w7.1, w7.2, w8.1, w8.2, w9.1, w9.2, w10.1, w10.2, w11.1, w11.2, a1, a2, a53, a54]; first | omega | exact bo_i _) rfl ?_
                  refine e_step (pc' := 172) hK rfl rfl rfl ?_
                  refine e_ret hK rfl rfl (by first | rfl | (simp only [mv_ret]; rw [if_pos]; exact Or.inr ⟨rfl, by omega⟩)) ?_
                  have ha : px_a (px f n) n x := ⟨hb29, by omega, fun hgf => (by rw [hb10] at hgf; cases hgf), fun hgt h3 => by omega⟩
                  refine ⟨rfl, Or.inl ⟨ha, rfl, ⟨⟨w0, ?_, ?_, ?_, ?_, ?_, ?_, ⟨?_, ?_⟩, ⟨?_, ?_⟩, ⟨?_, ?_⟩, ⟨?_, ?_⟩, ⟨?_, ?_⟩⟩, ?_, ?_, px_ok_up a3 ha, fun k h0 h1 => ?_, fun p h0 h1 => ?_⟩, fun b hb => ?_⟩⟩
                  · simp (disch := omega) only [uo_s, uo_n, up_s, up_n, w1, w2, w3, w4, w5, w6, w7.1, w7.2, w8.1, w8.2, w9.1, w9.2, w10.1, w10.2, w11.1, w11.2, a1, a2, a53, a54]
                  · simp (disch := omega) only [uo_s, uo_n, up_s, up_n, w1, w2, w3, w4, w5, w6, w7.1, w7.2, w8.1, w8.2, w9.1, w9.2, w10.1, w10.2, w11.1, w11.2, a1, a2, a53, a54]
                  · simp (disch := omega) only [uo_s, uo_n, up_s, up_n, w1, w2, w3, w4, w5, w6, w7.1, w7.2, w8.1, w8.2, w9.1, w9.2, w10.1, w10.2, w11.1, w11.2, a1, a2, a53, a54]
                  · simp (disch := omega) only [uo_s, uo_n, up_s, up_n, w1, w2, w3, w4, w5, w6, w7.1, w7.2, w8.1, w8.2, w9.1, w9.2, w10.1, w10.2, w11.1, w11.2, a1, a2, a53, a54]
                  · simp (disch := omega) only [uo_s, uo_n, up_s, up_n, w1, w2, w3, w4, w5, w6, w7.1, w7.2, w8.1, w8.2, w9.1, w9.2, w10.1, w10.2, w11.1, w11.2, a1, a2, a53, a54]
                  · simp (disch := omega) only [uo_s, uo_n, up_s, up_n, w1, w2, w3, w4, w5, w6, w7.1, w7.2, w8.1, w8.2, w9.1, w9.2, w10.1, w10.2, w11.1, w11.2, a1, a2, a53, a54]
                  · simp (disch := omega) only [uo_s, uo_n, up_s, up_n, w1, w2, w3, w4, w5, w6, w7.1, w7.2, w8.1, w8.2, w9.1, w9.2, w10.1, w10.2, w11.1, w11.2, a1, a2, a53, a54]
                  · simp (disch := omega) only [uo_s, uo_n, up_s, up_n, w1, w2, w3, w4, w5, w6, w7.1, w7.2, w8.1, w8.2, w9.1, w9.2, w10.1, w10.2, w11.1, w11.2, a1, a2, a53, a54]
                  · simp (disch := omega) only [uo_s, uo_n, up_s, up_n, w1, w2, w3, w4, w5, w6, w7.1, w7.2, w8.1, w8.2, w9.1, w9.2, w10.1, w10.2, w11.1, w11.2, a1, a2, a53, a54]
                  · simp (disch := omega) only [uo_s, uo_n, up_s, up_n, w1, w2, w3, w4, w5, w6, w7.1, w7.2, w8.1, w8.2, w9.1, w9.2, w10.1, w10.2, w11.1, w11.2, a1, a2, a53, a54]
                  · simp (disch := omega) only [uo_s, uo_n, up_s, up_n, w1, w2, w3, w4, w5, w6, w7.1, w7.2, w8.1, w8.2, w9.1, w9.2, w10.1, w10.2, w11.1, w11.2, a1, a2, a53, a54]
                  · simp (disch := omega) only [uo_s, uo_n, up_s, up_n, w1, w2, w3, w4, w5, w6, w7.1, w7.2, w8.1, w8.2, w9.1, w9.2, w10.1, w10.2, w11.1, w11.2, a1, a2, a53, a54]
                  · simp (disch := omega) only [uo_s, uo_n, up_s, up_n, w1, w2, w3, w4, w5, w6, w7.1, w7.2, w8.1, w8.2, w9.1, w9.2, w10.1, w10.2, w11.1, w11.2, a1, a2, a53, a54]
                  · simp (disch := omega) only [uo_s, uo_n, up_s, up_n, w1, w2, w3, w4, w5, w6, w7.1, w7.2, w8.1, w8.2, w9.1, w9.2, w10.1, w10.2, w11.1, w11.2, a1, a2, a53, a54]
                  · simp (disch := omega) only [uo_s, uo_n, up_s, up_n, w1, w2, w3, w4, w5, w6, w7.1, w7.2, w8.1, w8.2, w9.1, w9.2, w10.1, w10.2, w11.1, w11.2, a1, a2, a53, a54]
                  · simp (disch := omega) only [uo_s, uo_n, up_s, up_n, w1, w2, w3, w4, w5, w6, w7.1, w7.2, w8.1, w8.2, w9.1, w9.2, w10.1, w10.2, w11.1, w11.2, a1, a2, a53, a54]
                  · (simp (disch := omega) only [uo_s, uo_n, up_s, up_n, w1, w2, w3, w4, w5, w6, w7.1, w7.2, w8.1, w8.2, w9.1, w9.2, w10.1, w10.2, w11.1, w11.2, a1, a2, a53, a54]) <;> omega
                  · rw [px_up1]; unfold px_add; rw [hb10]; (simp (disch := omega) only [cond_true, cond_false, uo_s, uo_n, up_s, up_n, w1, w2, w3, w4, w5, w6, w7.1, w7.2, w8.1, w8.2, w9.1, w9.2, w10.1, w10.2, w11.1, w11.2, a1, a2, a53, a54])
                  · by_cases hk : k = n
                    · subst hk; simp (disch := omega) only [uo_s, uo_n, up_s, up_n, w1, w2, w3, w4, w5, w6, w7.1, w7.2, w8.1, w8.2, w9.1, w9.2, w10.1, w10.2, w11.1, w11.2, a1, a2, a53, a54]
                    · simp (disch := omega) only [uo_s, uo_n, up_s, up_n, w1, w2, w3, w4, w5, w6, w7.1, w7.2, w8.1, w8.2, w9.1, w9.2, w10.1, w10.2, w11.1, w11.2, a1, a2, a53, a54]; exact a4 k h0 (by omega)
                  · rw [px_up1] at h1 ⊢
                    unfold px_add at h1 ⊢
                    rw [hb10] at h1 ⊢
                    simp only [cond_true] at h1 ⊢
                    have h8 := a5 p h0 h1
                    by_cases hp : p = (px f n).1 - 1
                    · subst hp
                      refine ⟨?_, ?_, ?_, ?_⟩
                      · simp (disch := omega) only [uo_s, uo_n, up_s, up_n]; exact h8.1
                      · simp (disch := omega) only [uo_s, uo_n, up_s, up_n]; exact h8.2.1
                      · simp (disch := omega) only [uo_s, uo_n, up_s, up_n, w1, w2, w3, w4, w5, w6, w7.1, w7.2, w8.1, w8.2, w9.1, w9.2, w10.1, w10.2, w11.1, w11.2, a1, a2, a53, a54]
                      · simp (disch := omega) only [uo_s, uo_n, up_s, up_n, w1, w2, w3, w4, w5, w6, w7.1, w7.2, w8.1, w8.2, w9.1, w9.2, w10.1, w10.2, w11.1, w11.2, a1, a2, a53, a54]; rw [if_pos hb104]
                    · refine ⟨?_, ?_, ?_, ?_⟩
                      · simp (disch := omega) only [uo_s, uo_n, up_s, up_n]; exact h8.1
                      · simp (disch := omega) only [uo_s, uo_n, up_s, up_n]; exact h8.2.1
                      · simp (disch := omega) only [uo_s, uo_n, up_s, up_n]; exact h8.2.2.1
                      · simp (disch := omega) only [uo_s, uo_n, up_s, up_n]; exact h8.2.2.2
                  · simp (disch := omega) only [uo_n]
                · replace hb115 := cq_lt.2.mp hb115
                  try simp only [bo_0, Bool.not_eq_false] at hb115
                  refine e_step (pc' := 119) hK rfl rfl rfl ?_
                  refine e_ret hK rfl rfl (by first | rfl | (simp only [mv_ret]; rw [if_pos]; exact Or.inr ⟨rfl, by omega⟩)) ?_
                  refine ⟨rfl, Or.inr ⟨?_, rfl, rfl⟩⟩
                  rintro ⟨q1, q2, q3, q4⟩
                  have q5 := q4 hb10 hb104
                  omega
            · replace hb58 := cq_ne.2.mp hb58
              try simp only [bo_0, Bool.not_eq_false] at hb58
              exfalso; first | omega | exact absurd trivial (by assumption) | (first | omega | exact bo_i _)
          · replace hb48 := cq_lt.2.mp hb48
            try simp only [bo_0, Bool.not_eq_false] at hb48
            exfalso; first | omega | exact absurd trivial (by assumption) | (first | omega | exact bo_i _)
end LMC
