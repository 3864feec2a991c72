/-! Line's writers and its comparison; numbers' digits (written by wip/whole/m24.py) -/
section LM
variable {sc : Int × (Int → Int)} {c : mv_C} {h : mv_H}
set_option maxRecDepth 10000 in
theorem c_clear {l : Int} (hl : LnW h l) : mv_Cl sc q_Line_clear [(2, l)] c h (fun r c' h' => r = (3, 0) ∧ c' = c ∧ (∀ f, LnA h' l 0 f) ∧ ∀ b, b ≠ l → h' b = h b) := by
  obtain ⟨w0, w1, w2, w3, w4, w5, w6, w7, w8, w9, w10, w11⟩ := id hl
  show mv_Ev sc 5 0 [(2, l)] [] c h _
  have hK : (mv_m 5).1 = kc_Line_clear := rfl
  refine e_step (pc' := 1) hK rfl rfl rfl ?_
  refine e_step (pc' := 2) hK rfl rfl rfl ?_
  refine e_put (ci := 1) (k := 5) (pc' := 5) hK rfl (by simp (disch := omega) only [uo_s, uo_n, w1, w2, w3, w4, w5, w6, w7.1, w7.2, w8.1, w8.2, w9.1, w9.2, w10.1, w10.2, w11.1, w11.2]) rfl rfl (by decide) rfl rfl ?_
  refine e_step (pc' := 6) hK rfl rfl rfl ?_
  refine e_step (pc' := 7) hK rfl rfl rfl ?_
  refine e_put (ci := 1) (k := 6) (pc' := 10) hK rfl (by simp (disch := omega) only [uo_s, uo_n, w1, w2, w3, w4, w5, w6, w7.1, w7.2, w8.1, w8.2, w9.1, w9.2, w10.1, w10.2, w11.1, w11.2]) rfl rfl (by decide) rfl rfl ?_
  refine e_ret hK rfl rfl rfl ?_
  refine ⟨rfl, rfl, fun f => ⟨(hl.put (by decide)).put (by decide), ?_, ?_, fun i hi => absurd hi (Nat.not_lt_zero i), fun k h0 h1 => by omega, fun p h0 h1 => ?_⟩, fun b hb => ?_⟩
  · simp (disch := omega) only [uo_s, up_s, up_n]; rfl
  · simp (disch := omega) only [uo_s, up_s, up_n]; rfl
  · have h1 : p < 0 := h1
    omega
  · rw [uo_n hb, uo_n hb]
set_option maxRecDepth 10000 in
theorem c_iwl1 {l l2 : Int} {n1 n2 : Nat} {f1 f2 : Int → Int} (hl : LnA h l n1 f1) (hl2 : LnA h l2 n2 f2) (p q : Int) (hp0 : 0 ≤ p) (hp1 : p < (px f1 n1).1) (hq0 : 0 ≤ q) (hq1 : q < (px f2 n2).1) (hsz : (px f1 n1).2.2.2.1 p = (px f2 n2).2.2.2.1 q) : ∀ (m : Nat) (j : Nat), (j : Int) + m = (px f1 n1).2.2.2.1 p → px_e f1 f2 ((px f1 n1).2.2.1 p) ((px f2 n2).2.2.1 q) j = true → mv_Ev sc 9 61 [(2, l), (0, p), (2, l2), (0, q), (0, (px f1 n1).2.2.1 p), (0, (px f2 n2).2.2.1 q + j), (0, (px f1 n1).2.2.1 p + j)] [] c h (mv_Rd (0, mv_bo (px_w n1 f1 p n2 f2 q)) c h) := by
  have hI := hl.I
  have hJ := hl2.I
  obtain ⟨i1, i2, i3, i4, i5⟩ := id hI
  obtain ⟨j1, j2, j3, j4, j5⟩ := id hJ
  obtain ⟨⟨w0, w1, w2, w3, w4, w5, w6, w7, w8, w9, w10, w11⟩, a1, a2, a3, a4, a5⟩ := id hl
  obtain ⟨⟨u0, u1, u2, u3, u4, u5, u6, u7, u8, u9, u10, u11⟩, b1, b2, b3, b4, b5⟩ := id hl2
  have a51 := fun (p : Int) (h0 : 0 ≤ p) (h1 : p < (px f1 n1).1) => (a5 p h0 h1).1
  have a52 := fun (p : Int) (h0 : 0 ≤ p) (h1 : p < (px f1 n1).1) => (a5 p h0 h1).2.1
  have a53 := fun (p : Int) (h0 : 0 ≤ p) (h1 : p < (px f1 n1).1) => (a5 p h0 h1).2.2.1
  have b52 := fun (p : Int) (h0 : 0 ≤ p) (h1 : p < (px f2 n2).1) => (b5 p h0 h1).2.1
  have b53 := fun (p : Int) (h0 : 0 ≤ p) (h1 : p < (px f2 n2).1) => (b5 p h0 h1).2.2.1
  have i6 := i5 p hp0 hp1
  have j6 := j5 q hq0 hq1
  intro m
  induction m with
  | zero =>
    intro j hj he
    have hK : (mv_m 9).1 = kc_Line_isWrittenLike := rfl
    refine e_step (pc' := 63) hK rfl rfl rfl ?_
    refine e_step (pc' := 65) hK rfl rfl rfl ?_
    refine e_step (pc' := 66) hK rfl rfl rfl ?_
    refine e_getR (ci := 1) (k := 3) (pc' := 69) hK rfl (by simp (disch := omega) only [w1, w2, w3, w4, w5, w6, w7.1, w7.2, w8.1, w8.2, w9.1, w9.2, w10.1, w10.2, w11.1, w11.2, u1, u2, u3, u4, u5, u6, u7.1, u7.2, u8.1, u8.2, u9.1, u9.2, u10.1, u10.2, u11.1, u11.2, a1, a2, b1, b2, a52, a53, b52, b53, a4, b4]) rfl rfl (by decide) (by decide) (by simp (disch := omega) only [w1, w2, w3, w4, w5, w6, w7.1, w7.2, w8.1, w8.2, w9.1, w9.2, w10.1, w10.2, w11.1, w11.2, u1, u2, u3, u4, u5, u6, u7.1, u7.2, u8.1, u8.2, u9.1, u9.2, u10.1, u10.2, u11.1, u11.2, a1, a2, b1, b2, a52, a53, b52, b53, a4, b4]; omega) rfl ?_
    try simp (disch := omega) only [w1, w2, w3, w4, w5, w6, w7.1, w7.2, w8.1, w8.2, w9.1, w9.2, w10.1, w10.2, w11.1, w11.2, u1, u2, u3, u4, u5, u6, u7.1, u7.2, u8.1, u8.2, u9.1, u9.2, u10.1, u10.2, u11.1, u11.2, a1, a2, b1, b2, a52, a53, b52, b53, a4, b4]
    refine e_step (pc' := 70) hK rfl rfl rfl ?_
    refine e_iald (pc' := 71) hK rfl (by simp (disch := omega) only [w1, w2, w3, w4, w5, w6, w7.1, w7.2, w8.1, w8.2, w9.1, w9.2, w10.1, w10.2, w11.1, w11.2, u1, u2, u3, u4, u5, u6, u7.1, u7.2, u8.1, u8.2, u9.1, u9.2, u10.1, u10.2, u11.1, u11.2, a1, a2, b1, b2, a52, a53, b52, b53, a4, b4]) (by omega) (by simp (disch := omega) only [w1, w2, w3, w4, w5, w6, w7.1, w7.2, w8.1, w8.2, w9.1, w9.2, w10.1, w10.2, w11.1, w11.2, u1, u2, u3, u4, u5, u6, u7.1, u7.2, u8.1, u8.2, u9.1, u9.2, u10.1, u10.2, u11.1, u11.2, a1, a2, b1, b2, a52, a53, b52, b53, a4, b4]; omega) rfl ?_
    try simp (disch := omega) only [w1, w2, w3, w4, w5, w6, w7.1, w7.2, w8.1, w8.2, w9.1, w9.2, w10.1, w10.2, w11.1, w11.2, u1, u2, u3, u4, u5, u6, u7.1, u7.2, u8.1, u8.2, u9.1, u9.2, u10.1, u10.2, u11.1, u11.2, a1, a2, b1, b2, a52, a53, b52, b53, a4, b4]
    refine e_step (pc' := 72) hK rfl rfl rfl ?_
    refine e_icmp (t := 121) (pc' := 75) hK rfl (by omega) (by omega) (by decide) rfl (fun hb72 => ?_) (fun hb72 => ?_)
    · replace hb72 := cq_ge.1.mp hb72
      refine e_step (pc' := 122) hK rfl rfl rfl ?_
      refine e_ret hK rfl rfl (by first | rfl | (simp only [mv_ret]; rw [if_pos]; exact Or.inr ⟨rfl, by omega⟩)) ?_
      refine ⟨?_, rfl, rfl⟩
      congr 1
      have hjj : ((px f1 n1).2.2.2.1 p).toNat = j := by omega
      unfold px_w
      rw [hjj, he, decide_eq_true hp0, decide_eq_true hp1, decide_eq_true hq0, decide_eq_true hq1, decide_eq_true hsz]
      rfl
    · replace hb72 := cq_ge.2.mp hb72
      exfalso; first | omega | exact absurd trivial (by assumption)
  | succ m ih =>
    intro j hj he
    have hK : (mv_m 9).1 = kc_Line_isWrittenLike := rfl
    refine e_step (pc' := 63) hK rfl rfl rfl ?_
    refine e_step (pc' := 65) hK rfl rfl rfl ?_
    refine e_step (pc' := 66) hK rfl rfl rfl ?_
    refine e_getR (ci := 1) (k := 3) (pc' := 69) hK rfl (by simp (disch := omega) only [w1, w2, w3, w4, w5, w6, w7.1, w7.2, w8.1, w8.2, w9.1, w9.2, w10.1, w10.2, w11.1, w11.2, u1, u2, u3, u4, u5, u6, u7.1, u7.2, u8.1, u8.2, u9.1, u9.2, u10.1, u10.2, u11.1, u11.2, a1, a2, b1, b2, a52, a53, b52, b53, a4, b4]) rfl rfl (by decide) (by decide) (by simp (disch := omega) only [w1, w2, w3, w4, w5, w6, w7.1, w7.2, w8.1, w8.2, w9.1, w9.2, w10.1, w10.2, w11.1, w11.2, u1, u2, u3, u4, u5, u6, u7.1, u7.2, u8.1, u8.2, u9.1, u9.2, u10.1, u10.2, u11.1, u11.2, a1, a2, b1, b2, a52, a53, b52, b53, a4, b4]; first | omega | (have h7 := fun (P : px_T) (z : Int) (hz : px_a P j z) => (px_kb z).2.2 hz.1; have h8 := a3; have h9 := b3; exact px_chi (by assumption) (by omega) (by omega))) rfl ?_
    try simp (disch := omega) only [w1, w2, w3, w4, w5, w6, w7.1, w7.2, w8.1, w8.2, w9.1, w9.2, w10.1, w10.2, w11.1, w11.2, u1, u2, u3, u4, u5, u6, u7.1, u7.2, u8.1, u8.2, u9.1, u9.2, u10.1, u10.2, u11.1, u11.2, a1, a2, b1, b2, a52, a53, b52, b53, a4, b4]
    refine e_step (pc' := 70) hK rfl rfl rfl ?_
    refine e_iald (pc' := 71) hK rfl (by simp (disch := omega) only [w1, w2, w3, w4, w5, w6, w7.1, w7.2, w8.1, w8.2, w9.1, w9.2, w10.1, w10.2, w11.1, w11.2, u1, u2, u3, u4, u5, u6, u7.1, u7.2, u8.1, u8.2, u9.1, u9.2, u10.1, u10.2, u11.1, u11.2, a1, a2, b1, b2, a52, a53, b52, b53, a4, b4]) (by first | omega | (have h7 := fun (P : px_T) (z : Int) (hz : px_a P j z) => (px_kb z).2.2 hz.1; have h8 := a3; have h9 := b3; exact px_chi (by assumption) (by omega) (by omega))) (by simp (disch := omega) only [w1, w2, w3, w4, w5, w6, w7.1, w7.2, w8.1, w8.2, w9.1, w9.2, w10.1, w10.2, w11.1, w11.2, u1, u2, u3, u4, u5, u6, u7.1, u7.2, u8.1, u8.2, u9.1, u9.2, u10.1, u10.2, u11.1, u11.2, a1, a2, b1, b2, a52, a53, b52, b53, a4, b4]; first | omega | (have h7 := fun (P : px_T) (z : Int) (hz : px_a P j z) => (px_kb z).2.2 hz.1; have h8 := a3; have h9 := b3; exact px_chi (by assumption) (by omega) (by omega))) rfl ?_
    try simp (disch := omega) only [w1, w2, w3, w4, w5, w6, w7.1, w7.2, w8.1, w8.2, w9.1, w9.2, w10.1, w10.2, w11.1, w11.2, u1, u2, u3, u4, u5, u6, u7.1, u7.2, u8.1, u8.2, u9.1, u9.2, u10.1, u10.2, u11.1, u11.2, a1, a2, b1, b2, a52, a53, b52, b53, a4, b4]
    refine e_step (pc' := 72) hK rfl rfl rfl ?_
    refine e_icmp (t := 121) (pc' := 75) hK rfl (by first | omega | (have h7 := fun (P : px_T) (z : Int) (hz : px_a P j z) => (px_kb z).2.2 hz.1; have h8 := a3; have h9 := b3; exact px_chi (by assumption) (by omega) (by omega))) (by first | omega | (have h7 := fun (P : px_T) (z : Int) (hz : px_a P j z) => (px_kb z).2.2 hz.1; have h8 := a3; have h9 := b3; exact px_chi (by assumption) (by omega) (by omega))) (by decide) rfl (fun hb72 => ?_) (fun hb72 => ?_)
    · replace hb72 := cq_ge.1.mp hb72
      exfalso; first | omega | exact absurd trivial (by assumption) | (first | omega | (have h7 := fun (P : px_T) (z : Int) (hz : px_a P j z) => (px_kb z).2.2 hz.1; have h8 := a3; have h9 := b3; exact px_chi (by assumption) (by omega) (by omega)))
    · replace hb72 := cq_ge.2.mp hb72
      refine e_step (pc' := 77) hK rfl rfl rfl ?_
      refine e_step (pc' := 78) hK rfl rfl rfl ?_
      refine e_getI (ci := 1) (k := 5) (pc' := 81) hK rfl (by simp (disch := omega) only [w1, w2, w3, w4, w5, w6, w7.1, w7.2, w8.1, w8.2, w9.1, w9.2, w10.1, w10.2, w11.1, w11.2, u1, u2, u3, u4, u5, u6, u7.1, u7.2, u8.1, u8.2, u9.1, u9.2, u10.1, u10.2, u11.1, u11.2, a1, a2, b1, b2, a52, a53, b52, b53, a4, b4]) rfl rfl (by decide) (by decide) rfl ?_
      try simp (disch := omega) only [w1, w2, w3, w4, w5, w6, w7.1, w7.2, w8.1, w8.2, w9.1, w9.2, w10.1, w10.2, w11.1, w11.2, u1, u2, u3, u4, u5, u6, u7.1, u7.2, u8.1, u8.2, u9.1, u9.2, u10.1, u10.2, u11.1, u11.2, a1, a2, b1, b2, a52, a53, b52, b53, a4, b4]
      refine e_icmp (t := 121) (pc' := 84) hK rfl (by first | omega | (have h7 := fun (P : px_T) (z : Int) (hz : px_a P j z) => (px_kb z).2.2 hz.1; have h8 := a3; have h9 := b3; exact px_chi (by assumption) (by omega) (by omega))) (by first | omega | (have h7 := fun (P : px_T) (z : Int) (hz : px_a P j z) => (px_kb z).2.2 hz.1; have h8 := a3; have h9 := b3; exact px_chi (by assumption) (by omega) (by omega))) (by decide) rfl (fun hb81 => ?_) (fun hb81 => ?_)
      · replace hb81 := cq_ge.1.mp hb81
        exfalso; first | omega | exact absurd trivial (by assumption) | (first | omega | (have h7 := fun (P : px_T) (z : Int) (hz : px_a P j z) => (px_kb z).2.2 hz.1; have h8 := a3; have h9 := b3; exact px_chi (by assumption) (by omega) (by omega)))
      · replace hb81 := cq_ge.2.mp hb81
        refine e_step (pc' := 86) hK rfl rfl rfl ?_
        refine e_step (pc' := 87) hK rfl rfl rfl ?_
        refine e_getI (ci := 1) (k := 5) (pc' := 90) hK rfl (by simp (disch := omega) only [w1, w2, w3, w4, w5, w6, w7.1, w7.2, w8.1, w8.2, w9.1, w9.2, w10.1, w10.2, w11.1, w11.2, u1, u2, u3, u4, u5, u6, u7.1, u7.2, u8.1, u8.2, u9.1, u9.2, u10.1, u10.2, u11.1, u11.2, a1, a2, b1, b2, a52, a53, b52, b53, a4, b4]) rfl rfl (by decide) (by decide) rfl ?_
        try simp (disch := omega) only [w1, w2, w3, w4, w5, w6, w7.1, w7.2, w8.1, w8.2, w9.1, w9.2, w10.1, w10.2, w11.1, w11.2, u1, u2, u3, u4, u5, u6, u7.1, u7.2, u8.1, u8.2, u9.1, u9.2, u10.1, u10.2, u11.1, u11.2, a1, a2, b1, b2, a52, a53, b52, b53, a4, b4]
        refine e_icmp (t := 121) (pc' := 93) hK rfl (by first | omega | (have h7 := fun (P : px_T) (z : Int) (hz : px_a P j z) => (px_kb z).2.2 hz.1; have h8 := a3; have h9 := b3; exact px_chi (by assumption) (by omega) (by omega))) (by first | omega | (have h7 := fun (P : px_T) (z : Int) (hz : px_a P j z) => (px_kb z).2.2 hz.1; have h8 := a3; have h9 := b3; exact px_chi (by assumption) (by omega) (by omega))) (by decide) rfl (fun hb90 => ?_) (fun hb90 => ?_)
        · replace hb90 := cq_ge.1.mp hb90
          exfalso; first | omega | exact absurd trivial (by assumption) | (first | omega | (have h7 := fun (P : px_T) (z : Int) (hz : px_a P j z) => (px_kb z).2.2 hz.1; have h8 := a3; have h9 := b3; exact px_chi (by assumption) (by omega) (by omega)))
        · replace hb90 := cq_ge.2.mp hb90
          refine e_step (pc' := 94) hK rfl rfl rfl ?_
          refine e_getR (ci := 1) (k := 0) (pc' := 97) hK rfl (by simp (disch := omega) only [w1, w2, w3, w4, w5, w6, w7.1, w7.2, w8.1, w8.2, w9.1, w9.2, w10.1, w10.2, w11.1, w11.2, u1, u2, u3, u4, u5, u6, u7.1, u7.2, u8.1, u8.2, u9.1, u9.2, u10.1, u10.2, u11.1, u11.2, a1, a2, b1, b2, a52, a53, b52, b53, a4, b4]) rfl rfl (by decide) (by decide) (by simp (disch := omega) only [w1, w2, w3, w4, w5, w6, w7.1, w7.2, w8.1, w8.2, w9.1, w9.2, w10.1, w10.2, w11.1, w11.2, u1, u2, u3, u4, u5, u6, u7.1, u7.2, u8.1, u8.2, u9.1, u9.2, u10.1, u10.2, u11.1, u11.2, a1, a2, b1, b2, a52, a53, b52, b53, a4, b4]; first | omega | (have h7 := fun (P : px_T) (z : Int) (hz : px_a P j z) => (px_kb z).2.2 hz.1; have h8 := a3; have h9 := b3; exact px_chi (by assumption) (by omega) (by omega))) rfl ?_
          try simp (disch := omega) only [w1, w2, w3, w4, w5, w6, w7.1, w7.2, w8.1, w8.2, w9.1, w9.2, w10.1, w10.2, w11.1, w11.2, u1, u2, u3, u4, u5, u6, u7.1, u7.2, u8.1, u8.2, u9.1, u9.2, u10.1, u10.2, u11.1, u11.2, a1, a2, b1, b2, a52, a53, b52, b53, a4, b4]
          refine e_step (pc' := 99) hK rfl rfl rfl ?_
          refine e_cald (pc' := 100) hK rfl (by simp (disch := omega) only [w1, w2, w3, w4, w5, w6, w7.1, w7.2, w8.1, w8.2, w9.1, w9.2, w10.1, w10.2, w11.1, w11.2, u1, u2, u3, u4, u5, u6, u7.1, u7.2, u8.1, u8.2, u9.1, u9.2, u10.1, u10.2, u11.1, u11.2, a1, a2, b1, b2, a52, a53, b52, b53, a4, b4]) (by first | omega | (have h7 := fun (P : px_T) (z : Int) (hz : px_a P j z) => (px_kb z).2.2 hz.1; have h8 := a3; have h9 := b3; exact px_chi (by assumption) (by omega) (by omega))) (by simp (disch := omega) only [w1, w2, w3, w4, w5, w6, w7.1, w7.2, w8.1, w8.2, w9.1, w9.2, w10.1, w10.2, w11.1, w11.2, u1, u2, u3, u4, u5, u6, u7.1, u7.2, u8.1, u8.2, u9.1, u9.2, u10.1, u10.2, u11.1, u11.2, a1, a2, b1, b2, a52, a53, b52, b53, a4, b4]; first | omega | (have h7 := fun (P : px_T) (z : Int) (hz : px_a P j z) => (px_kb z).2.2 hz.1; have h8 := a3; have h9 := b3; exact px_chi (by assumption) (by omega) (by omega))) rfl ?_
          try simp (disch := omega) only [w1, w2, w3, w4, w5, w6, w7.1, w7.2, w8.1, w8.2, w9.1, w9.2, w10.1, w10.2, w11.1, w11.2, u1, u2, u3, u4, u5, u6, u7.1, u7.2, u8.1, u8.2, u9.1, u9.2, u10.1, u10.2, u11.1, u11.2, a1, a2, b1, b2, a52, a53, b52, b53, a4, b4]
          refine e_step (pc' := 101) hK rfl rfl rfl ?_
          refine e_getR (ci := 1) (k := 0) (pc' := 104) hK rfl (by simp (disch := omega) only [w1, w2, w3, w4, w5, w6, w7.1, w7.2, w8.1, w8.2, w9.1, w9.2, w10.1, w10.2, w11.1, w11.2, u1, u2, u3, u4, u5, u6, u7.1, u7.2, u8.1, u8.2, u9.1, u9.2, u10.1, u10.2, u11.1, u11.2, a1, a2, b1, b2, a52, a53, b52, b53, a4, b4]) rfl rfl (by decide) (by decide) (by simp (disch := omega) only [w1, w2, w3, w4, w5, w6, w7.1, w7.2, w8.1, w8.2, w9.1, w9.2, w10.1, w10.2, w11.1, w11.2, u1, u2, u3, u4, u5, u6, u7.1, u7.2, u8.1, u8.2, u9.1, u9.2, u10.1, u10.2, u11.1, u11.2, a1, a2, b1, b2, a52, a53, b52, b53, a4, b4]; first | omega | (have h7 := fun (P : px_T) (z : Int) (hz : px_a P j z) => (px_kb z).2.2 hz.1; have h8 := a3; have h9 := b3; exact px_chi (by assumption) (by omega) (by omega))) rfl ?_
          try simp (disch := omega) only [w1, w2, w3, w4, w5, w6, w7.1, w7.2, w8.1, w8.2, w9.1, w9.2, w10.1, w10.2, w11.1, w11.2, u1, u2, u3, u4, u5, u6, u7.1, u7.2, u8.1, u8.2, u9.1, u9.2, u10.1, u10.2, u11.1, u11.2, a1, a2, b1, b2, a52, a53, b52, b53, a4, b4]
          refine e_step (pc' := 106) hK rfl rfl rfl ?_
          refine e_cald (pc' := 107) hK rfl (by simp (disch := omega) only [w1, w2, w3, w4, w5, w6, w7.1, w7.2, w8.1, w8.2, w9.1, w9.2, w10.1, w10.2, w11.1, w11.2, u1, u2, u3, u4, u5, u6, u7.1, u7.2, u8.1, u8.2, u9.1, u9.2, u10.1, u10.2, u11.1, u11.2, a1, a2, b1, b2, a52, a53, b52, b53, a4, b4]) (by first | omega | (have h7 := fun (P : px_T) (z : Int) (hz : px_a P j z) => (px_kb z).2.2 hz.1; have h8 := a3; have h9 := b3; exact px_chi (by assumption) (by omega) (by omega))) (by simp (disch := omega) only [w1, w2, w3, w4, w5, w6, w7.1, w7.2, w8.1, w8.2, w9.1, w9.2, w10.1, w10.2, w11.1, w11.2, u1, u2, u3, u4, u5, u6, u7.1, u7.2, u8.1, u8.2, u9.1, u9.2, u10.1, u10.2, u11.1, u11.2, a1, a2, b1, b2, a52, a53, b52, b53, a4, b4]; first | omega | (have h7 := fun (P : px_T) (z : Int) (hz : px_a P j z) => (px_kb z).2.2 hz.1; have h8 := a3; have h9 := b3; exact px_chi (by assumption) (by omega) (by omega))) rfl ?_
          try simp (disch := omega) only [w1, w2, w3, w4, w5, w6, w7.1, w7.2, w8.1, w8.2, w9.1, w9.2, w10.1, w10.2, w11.1, w11.2, u1, u2, u3, u4, u5, u6, u7.1, u7.2, u8.1, u8.2, u9.1, u9.2, u10.1, u10.2, u11.1, u11.2, a1, a2, b1, b2, a52, a53, b52, b53, a4, b4]
          refine e_icmp (t := 112) (pc' := 110) hK rfl (by first | omega | (have h7 := fun (P : px_T) (z : Int) (hz : px_a P j z) => (px_kb z).2.2 hz.1; have h8 := a3; have h9 := b3; exact px_chi (by assumption) (by omega) (by omega))) (by first | omega | (have h7 := fun (P : px_T) (z : Int) (hz : px_a P j z) => (px_kb z).2.2 hz.1; have h8 := a3; have h9 := b3; exact px_chi (by assumption) (by omega) (by omega))) (by decide) rfl (fun hb107 => ?_) (fun hb107 => ?_)
          · replace hb107 := cq_eq.1.mp hb107
            refine e_step (pc' := 115) hK rfl rfl rfl ?_
            try simp only [List.set_cons_zero, List.set_cons_succ]
            refine e_step (pc' := 118) hK rfl rfl rfl ?_
            try simp only [List.set_cons_zero, List.set_cons_succ]
            refine e_goto (t := 61) hK rfl (by decide) ?_
            have h8 := ih (j + 1) (by omega) (by unfold px_e; rw [he, decide_eq_true hb107]; rfl)
            rw [show (((j + 1 : Nat) : Int)) = (j : Int) + 1 from rfl, ← Int.add_assoc, ← Int.add_assoc] at h8
            exact h8
          · replace hb107 := cq_eq.2.mp hb107
            refine e_step (pc' := 111) hK rfl rfl rfl ?_
            refine e_ret hK rfl rfl (by first | rfl | (simp only [mv_ret]; rw [if_pos]; exact Or.inr ⟨rfl, by omega⟩)) ?_
            refine ⟨?_, rfl, rfl⟩
            congr 1
            have hne : px_w n1 f1 p n2 f2 q = false := by
              cases hw : px_w n1 f1 p n2 f2 q with
              | false => rfl
              | true =>
                unfold px_w at hw
                exact absurd (px_e_at (k := j) (by omega) ((Bool.and_eq_true _ _).mp hw).2) hb107
            rw [hne]; rfl
set_option maxRecDepth 10000 in
theorem c_isWrittenLike {l l2 : Int} {n1 n2 : Nat} {f1 f2 : Int → Int} (hl : LnA h l n1 f1) (hl2 : LnA h l2 n2 f2) (p q : Int) (hp : mv_i p) (hq : mv_i q) : mv_Cl sc q_Line_isWrittenLike [(2, l), (0, p), (2, l2), (0, q)] c h (mv_Rd (0, mv_bo (px_w n1 f1 p n2 f2 q)) c h) := by
  have hI := hl.I
  have hJ := hl2.I
  obtain ⟨i1, i2, i3, i4, i5⟩ := id hI
  obtain ⟨j1, j2, j3, j4, j5⟩ := id hJ
  obtain ⟨⟨w0, w1, w2, w3, w4, w5, w6, w7, w8, w9, w10, w11⟩, a1, a2, a3, a4, a5⟩ := id hl
  obtain ⟨⟨u0, u1, u2, u3, u4, u5, u6, u7, u8, u9, u10, u11⟩, b1, b2, b3, b4, b5⟩ := id hl2
  have a51 := fun (p : Int) (h0 : 0 ≤ p) (h1 : p < (px f1 n1).1) => (a5 p h0 h1).1
  have a52 := fun (p : Int) (h0 : 0 ≤ p) (h1 : p < (px f1 n1).1) => (a5 p h0 h1).2.1
  have a53 := fun (p : Int) (h0 : 0 ≤ p) (h1 : p < (px f1 n1).1) => (a5 p h0 h1).2.2.1
  have b52 := fun (p : Int) (h0 : 0 ≤ p) (h1 : p < (px f2 n2).1) => (b5 p h0 h1).2.1
  have b53 := fun (p : Int) (h0 : 0 ≤ p) (h1 : p < (px f2 n2).1) => (b5 p h0 h1).2.2.1
  show mv_Ev sc 9 0 [(2, l), (0, p), (2, l2), (0, q), (5, 0), (5, 0), (5, 0)] [] c h _
  have hK : (mv_m 9).1 = kc_Line_isWrittenLike := rfl
  refine e_step (pc' := 1) hK rfl rfl rfl ?_
  refine e_if (t := 39) (pc' := 4) hK rfl (by first | omega | (have i6 := i5 p (by omega) (by omega); have j6 := j5 q (by omega) (by omega); omega)) (by decide) rfl (fun hb1 => ?_) (fun hb1 => ?_)
  · replace hb1 := cq_lt.1.mp hb1
    refine e_step (pc' := 40) hK rfl rfl rfl ?_
    refine e_ret hK rfl rfl (by first | rfl | (simp only [mv_ret]; rw [if_pos]; exact Or.inr ⟨rfl, by omega⟩)) ?_
    refine ⟨?_, rfl, rfl⟩
    congr 1
    have hne : px_w n1 f1 p n2 f2 q = false := by
      cases hw : px_w n1 f1 p n2 f2 q with
      | false => rfl
      | true =>
        unfold px_w at hw
        simp only [Bool.and_eq_true, decide_eq_true_eq] at hw
        omega
    rw [hne]; rfl
  · replace hb1 := cq_lt.2.mp hb1
    refine e_step (pc' := 5) hK rfl rfl rfl ?_
    refine e_step (pc' := 6) hK rfl rfl rfl ?_
    refine e_getI (ci := 1) (k := 6) (pc' := 9) hK rfl (by simp (disch := omega) only [w1, w2, w3, w4, w5, w6, w7.1, w7.2, w8.1, w8.2, w9.1, w9.2, w10.1, w10.2, w11.1, w11.2, u1, u2, u3, u4, u5, u6, u7.1, u7.2, u8.1, u8.2, u9.1, u9.2, u10.1, u10.2, u11.1, u11.2, a1, a2, b1, b2, a52, a53, b52, b53]) rfl rfl (by decide) (by decide) rfl ?_
    try simp (disch := omega) only [w1, w2, w3, w4, w5, w6, w7.1, w7.2, w8.1, w8.2, w9.1, w9.2, w10.1, w10.2, w11.1, w11.2, u1, u2, u3, u4, u5, u6, u7.1, u7.2, u8.1, u8.2, u9.1, u9.2, u10.1, u10.2, u11.1, u11.2, a1, a2, b1, b2, a52, a53, b52, b53]
    refine e_icmp (t := 39) (pc' := 12) hK rfl (by first | omega | (have i6 := i5 p (by omega) (by omega); have j6 := j5 q (by omega) (by omega); omega)) (by first | omega | (have i6 := i5 p (by omega) (by omega); have j6 := j5 q (by omega) (by omega); omega)) (by decide) rfl (fun hb9 => ?_) (fun hb9 => ?_)
    · replace hb9 := cq_ge.1.mp hb9
      refine e_step (pc' := 40) hK rfl rfl rfl ?_
      refine e_ret hK rfl rfl (by first | rfl | (simp only [mv_ret]; rw [if_pos]; exact Or.inr ⟨rfl, by omega⟩)) ?_
      refine ⟨?_, rfl, rfl⟩
      congr 1
      have hne : px_w n1 f1 p n2 f2 q = false := by
        cases hw : px_w n1 f1 p n2 f2 q with
        | false => rfl
        | true =>
          unfold px_w at hw
          simp only [Bool.and_eq_true, decide_eq_true_eq] at hw
          omega
      rw [hne]; rfl
    · replace hb9 := cq_ge.2.mp hb9
      refine e_step (pc' := 13) hK rfl rfl rfl ?_
      refine e_if (t := 39) (pc' := 16) hK rfl (by first | omega | (have i6 := i5 p (by omega) (by omega); have j6 := j5 q (by omega) (by omega); omega)) (by decide) rfl (fun hb13 => ?_) (fun hb13 => ?_)
      · replace hb13 := cq_lt.1.mp hb13
        refine e_step (pc' := 40) hK rfl rfl rfl ?_
        refine e_ret hK rfl rfl (by first | rfl | (simp only [mv_ret]; rw [if_pos]; exact Or.inr ⟨rfl, by omega⟩)) ?_
        refine ⟨?_, rfl, rfl⟩
        congr 1
        have hne : px_w n1 f1 p n2 f2 q = false := by
          cases hw : px_w n1 f1 p n2 f2 q with
          | false => rfl
          | true =>
            unfold px_w at hw
            simp only [Bool.and_eq_true, decide_eq_true_eq] at hw
            omega
        rw [hne]; rfl
      · replace hb13 := cq_lt.2.mp hb13
        refine e_step (pc' := 17) hK rfl rfl rfl ?_
        refine e_step (pc' := 18) hK rfl rfl rfl ?_
        refine e_getI (ci := 1) (k := 6) (pc' := 21) hK rfl (by simp (disch := omega) only [w1, w2, w3, w4, w5, w6, w7.1, w7.2, w8.1, w8.2, w9.1, w9.2, w10.1, w10.2, w11.1, w11.2, u1, u2, u3, u4, u5, u6, u7.1, u7.2, u8.1, u8.2, u9.1, u9.2, u10.1, u10.2, u11.1, u11.2, a1, a2, b1, b2, a52, a53, b52, b53]) rfl rfl (by decide) (by decide) rfl ?_
        try simp (disch := omega) only [w1, w2, w3, w4, w5, w6, w7.1, w7.2, w8.1, w8.2, w9.1, w9.2, w10.1, w10.2, w11.1, w11.2, u1, u2, u3, u4, u5, u6, u7.1, u7.2, u8.1, u8.2, u9.1, u9.2, u10.1, u10.2, u11.1, u11.2, a1, a2, b1, b2, a52, a53, b52, b53]
        refine e_icmp (t := 39) (pc' := 24) hK rfl (by first | omega | (have i6 := i5 p (by omega) (by omega); have j6 := j5 q (by omega) (by omega); omega)) (by first | omega | (have i6 := i5 p (by omega) (by omega); have j6 := j5 q (by omega) (by omega); omega)) (by decide) rfl (fun hb21 => ?_) (fun hb21 => ?_)
        · replace hb21 := cq_ge.1.mp hb21
          refine e_step (pc' := 40) hK rfl rfl rfl ?_
          refine e_ret hK rfl rfl (by first | rfl | (simp only [mv_ret]; rw [if_pos]; exact Or.inr ⟨rfl, by omega⟩)) ?_
          refine ⟨?_, rfl, rfl⟩
          congr 1
          have hne : px_w n1 f1 p n2 f2 q = false := by
            cases hw : px_w n1 f1 p n2 f2 q with
            | false => rfl
            | true =>
              unfold px_w at hw
              simp only [Bool.and_eq_true, decide_eq_true_eq] at hw
              omega
          rw [hne]; rfl
        · replace hb21 := cq_ge.2.mp hb21
          refine e_step (pc' := 25) hK rfl rfl rfl ?_
          refine e_getR (ci := 1) (k := 3) (pc' := 28) hK rfl (by simp (disch := omega) only [w1, w2, w3, w4, w5, w6, w7.1, w7.2, w8.1, w8.2, w9.1, w9.2, w10.1, w10.2, w11.1, w11.2, u1, u2, u3, u4, u5, u6, u7.1, u7.2, u8.1, u8.2, u9.1, u9.2, u10.1, u10.2, u11.1, u11.2, a1, a2, b1, b2, a52, a53, b52, b53]) rfl rfl (by decide) (by decide) (by simp (disch := omega) only [w1, w2, w3, w4, w5, w6, w7.1, w7.2, w8.1, w8.2, w9.1, w9.2, w10.1, w10.2, w11.1, w11.2, u1, u2, u3, u4, u5, u6, u7.1, u7.2, u8.1, u8.2, u9.1, u9.2, u10.1, u10.2, u11.1, u11.2, a1, a2, b1, b2, a52, a53, b52, b53]; first | omega | (have i6 := i5 p (by omega) (by omega); have j6 := j5 q (by omega) (by omega); omega)) rfl ?_
          try simp (disch := omega) only [w1, w2, w3, w4, w5, w6, w7.1, w7.2, w8.1, w8.2, w9.1, w9.2, w10.1, w10.2, w11.1, w11.2, u1, u2, u3, u4, u5, u6, u7.1, u7.2, u8.1, u8.2, u9.1, u9.2, u10.1, u10.2, u11.1, u11.2, a1, a2, b1, b2, a52, a53, b52, b53]
          refine e_step (pc' := 29) hK rfl rfl rfl ?_
          refine e_iald (pc' := 30) hK rfl (by simp (disch := omega) only [w1, w2, w3, w4, w5, w6, w7.1, w7.2, w8.1, w8.2, w9.1, w9.2, w10.1, w10.2, w11.1, w11.2, u1, u2, u3, u4, u5, u6, u7.1, u7.2, u8.1, u8.2, u9.1, u9.2, u10.1, u10.2, u11.1, u11.2, a1, a2, b1, b2, a52, a53, b52, b53]) (by first | omega | (have i6 := i5 p (by omega) (by omega); have j6 := j5 q (by omega) (by omega); omega)) (by simp (disch := omega) only [w1, w2, w3, w4, w5, w6, w7.1, w7.2, w8.1, w8.2, w9.1, w9.2, w10.1, w10.2, w11.1, w11.2, u1, u2, u3, u4, u5, u6, u7.1, u7.2, u8.1, u8.2, u9.1, u9.2, u10.1, u10.2, u11.1, u11.2, a1, a2, b1, b2, a52, a53, b52, b53]; first | omega | (have i6 := i5 p (by omega) (by omega); have j6 := j5 q (by omega) (by omega); omega)) rfl ?_
          try simp (disch := omega) only [w1, w2, w3, w4, w5, w6, w7.1, w7.2, w8.1, w8.2, w9.1, w9.2, w10.1, w10.2, w11.1, w11.2, u1, u2, u3, u4, u5, u6, u7.1, u7.2, u8.1, u8.2, u9.1, u9.2, u10.1, u10.2, u11.1, u11.2, a1, a2, b1, b2, a52, a53, b52, b53]
          refine e_step (pc' := 31) hK rfl rfl rfl ?_
          refine e_getR (ci := 1) (k := 3) (pc' := 34) hK rfl (by simp (disch := omega) only [w1, w2, w3, w4, w5, w6, w7.1, w7.2, w8.1, w8.2, w9.1, w9.2, w10.1, w10.2, w11.1, w11.2, u1, u2, u3, u4, u5, u6, u7.1, u7.2, u8.1, u8.2, u9.1, u9.2, u10.1, u10.2, u11.1, u11.2, a1, a2, b1, b2, a52, a53, b52, b53]) rfl rfl (by decide) (by decide) (by simp (disch := omega) only [w1, w2, w3, w4, w5, w6, w7.1, w7.2, w8.1, w8.2, w9.1, w9.2, w10.1, w10.2, w11.1, w11.2, u1, u2, u3, u4, u5, u6, u7.1, u7.2, u8.1, u8.2, u9.1, u9.2, u10.1, u10.2, u11.1, u11.2, a1, a2, b1, b2, a52, a53, b52, b53]; first | omega | (have i6 := i5 p (by omega) (by omega); have j6 := j5 q (by omega) (by omega); omega)) rfl ?_
          try simp (disch := omega) only [w1, w2, w3, w4, w5, w6, w7.1, w7.2, w8.1, w8.2, w9.1, w9.2, w10.1, w10.2, w11.1, w11.2, u1, u2, u3, u4, u5, u6, u7.1, u7.2, u8.1, u8.2, u9.1, u9.2, u10.1, u10.2, u11.1, u11.2, a1, a2, b1, b2, a52, a53, b52, b53]
          refine e_step (pc' := 35) hK rfl rfl rfl ?_
          refine e_iald (pc' := 36) hK rfl (by simp (disch := omega) only [w1, w2, w3, w4, w5, w6, w7.1, w7.2, w8.1, w8.2, w9.1, w9.2, w10.1, w10.2, w11.1, w11.2, u1, u2, u3, u4, u5, u6, u7.1, u7.2, u8.1, u8.2, u9.1, u9.2, u10.1, u10.2, u11.1, u11.2, a1, a2, b1, b2, a52, a53, b52, b53]) (by first | omega | (have i6 := i5 p (by omega) (by omega); have j6 := j5 q (by omega) (by omega); omega)) (by simp (disch := omega) only [w1, w2, w3, w4, w5, w6, w7.1, w7.2, w8.1, w8.2, w9.1, w9.2, w10.1, w10.2, w11.1, w11.2, u1, u2, u3, u4, u5, u6, u7.1, u7.2, u8.1, u8.2, u9.1, u9.2, u10.1, u10.2, u11.1, u11.2, a1, a2, b1, b2, a52, a53, b52, b53]; first | omega | (have i6 := i5 p (by omega) (by omega); have j6 := j5 q (by omega) (by omega); omega)) rfl ?_
          try simp (disch := omega) only [w1, w2, w3, w4, w5, w6, w7.1, w7.2, w8.1, w8.2, w9.1, w9.2, w10.1, w10.2, w11.1, w11.2, u1, u2, u3, u4, u5, u6, u7.1, u7.2, u8.1, u8.2, u9.1, u9.2, u10.1, u10.2, u11.1, u11.2, a1, a2, b1, b2, a52, a53, b52, b53]
          refine e_icmp (t := 41) (pc' := 39) hK rfl (by first | omega | (have i6 := i5 p (by omega) (by omega); have j6 := j5 q (by omega) (by omega); omega)) (by first | omega | (have i6 := i5 p (by omega) (by omega); have j6 := j5 q (by omega) (by omega); omega)) (by decide) rfl (fun hb36 => ?_) (fun hb36 => ?_)
          · replace hb36 := cq_eq.1.mp hb36
            refine e_step (pc' := 42) hK rfl rfl rfl ?_
            refine e_getR (ci := 1) (k := 2) (pc' := 45) hK rfl (by simp (disch := omega) only [w1, w2, w3, w4, w5, w6, w7.1, w7.2, w8.1, w8.2, w9.1, w9.2, w10.1, w10.2, w11.1, w11.2, u1, u2, u3, u4, u5, u6, u7.1, u7.2, u8.1, u8.2, u9.1, u9.2, u10.1, u10.2, u11.1, u11.2, a1, a2, b1, b2, a52, a53, b52, b53]) rfl rfl (by decide) (by decide) (by simp (disch := omega) only [w1, w2, w3, w4, w5, w6, w7.1, w7.2, w8.1, w8.2, w9.1, w9.2, w10.1, w10.2, w11.1, w11.2, u1, u2, u3, u4, u5, u6, u7.1, u7.2, u8.1, u8.2, u9.1, u9.2, u10.1, u10.2, u11.1, u11.2, a1, a2, b1, b2, a52, a53, b52, b53]; first | omega | (have i6 := i5 p (by omega) (by omega); have j6 := j5 q (by omega) (by omega); omega)) rfl ?_
            try simp (disch := omega) only [w1, w2, w3, w4, w5, w6, w7.1, w7.2, w8.1, w8.2, w9.1, w9.2, w10.1, w10.2, w11.1, w11.2, u1, u2, u3, u4, u5, u6, u7.1, u7.2, u8.1, u8.2, u9.1, u9.2, u10.1, u10.2, u11.1, u11.2, a1, a2, b1, b2, a52, a53, b52, b53]
            refine e_step (pc' := 46) hK rfl rfl rfl ?_
            refine e_iald (pc' := 47) hK rfl (by simp (disch := omega) only [w1, w2, w3, w4, w5, w6, w7.1, w7.2, w8.1, w8.2, w9.1, w9.2, w10.1, w10.2, w11.1, w11.2, u1, u2, u3, u4, u5, u6, u7.1, u7.2, u8.1, u8.2, u9.1, u9.2, u10.1, u10.2, u11.1, u11.2, a1, a2, b1, b2, a52, a53, b52, b53]) (by first | omega | (have i6 := i5 p (by omega) (by omega); have j6 := j5 q (by omega) (by omega); omega)) (by simp (disch := omega) only [w1, w2, w3, w4, w5, w6, w7.1, w7.2, w8.1, w8.2, w9.1, w9.2, w10.1, w10.2, w11.1, w11.2, u1, u2, u3, u4, u5, u6, u7.1, u7.2, u8.1, u8.2, u9.1, u9.2, u10.1, u10.2, u11.1, u11.2, a1, a2, b1, b2, a52, a53, b52, b53]; first | omega | (have i6 := i5 p (by omega) (by omega); have j6 := j5 q (by omega) (by omega); omega)) rfl ?_
            try simp (disch := omega) only [w1, w2, w3, w4, w5, w6, w7.1, w7.2, w8.1, w8.2, w9.1, w9.2, w10.1, w10.2, w11.1, w11.2, u1, u2, u3, u4, u5, u6, u7.1, u7.2, u8.1, u8.2, u9.1, u9.2, u10.1, u10.2, u11.1, u11.2, a1, a2, b1, b2, a52, a53, b52, b53]
            refine e_step (pc' := 49) hK rfl rfl rfl ?_
            try simp only [List.set_cons_zero, List.set_cons_succ]
            refine e_step (pc' := 50) hK rfl rfl rfl ?_
            refine e_getR (ci := 1) (k := 2) (pc' := 53) hK rfl (by simp (disch := omega) only [w1, w2, w3, w4, w5, w6, w7.1, w7.2, w8.1, w8.2, w9.1, w9.2, w10.1, w10.2, w11.1, w11.2, u1, u2, u3, u4, u5, u6, u7.1, u7.2, u8.1, u8.2, u9.1, u9.2, u10.1, u10.2, u11.1, u11.2, a1, a2, b1, b2, a52, a53, b52, b53]) rfl rfl (by decide) (by decide) (by simp (disch := omega) only [w1, w2, w3, w4, w5, w6, w7.1, w7.2, w8.1, w8.2, w9.1, w9.2, w10.1, w10.2, w11.1, w11.2, u1, u2, u3, u4, u5, u6, u7.1, u7.2, u8.1, u8.2, u9.1, u9.2, u10.1, u10.2, u11.1, u11.2, a1, a2, b1, b2, a52, a53, b52, b53]; first | omega | (have i6 := i5 p (by omega) (by omega); have j6 := j5 q (by omega) (by omega); omega)) rfl ?_
            try simp (disch := omega) only [w1, w2, w3, w4, w5, w6, w7.1, w7.2, w8.1, w8.2, w9.1, w9.2, w10.1, w10.2, w11.1, w11.2, u1, u2, u3, u4, u5, u6, u7.1, u7.2, u8.1, u8.2, u9.1, u9.2, u10.1, u10.2, u11.1, u11.2, a1, a2, b1, b2, a52, a53, b52, b53]
            refine e_step (pc' := 54) hK rfl rfl rfl ?_
            refine e_iald (pc' := 55) hK rfl (by simp (disch := omega) only [w1, w2, w3, w4, w5, w6, w7.1, w7.2, w8.1, w8.2, w9.1, w9.2, w10.1, w10.2, w11.1, w11.2, u1, u2, u3, u4, u5, u6, u7.1, u7.2, u8.1, u8.2, u9.1, u9.2, u10.1, u10.2, u11.1, u11.2, a1, a2, b1, b2, a52, a53, b52, b53]) (by first | omega | (have i6 := i5 p (by omega) (by omega); have j6 := j5 q (by omega) (by omega); omega)) (by simp (disch := omega) only [w1, w2, w3, w4, w5, w6, w7.1, w7.2, w8.1, w8.2, w9.1, w9.2, w10.1, w10.2, w11.1, w11.2, u1, u2, u3, u4, u5, u6, u7.1, u7.2, u8.1, u8.2, u9.1, u9.2, u10.1, u10.2, u11.1, u11.2, a1, a2, b1, b2, a52, a53, b52, b53]; first | omega | (have i6 := i5 p (by omega) (by omega); have j6 := j5 q (by omega) (by omega); omega)) rfl ?_
            try simp (disch := omega) only [w1, w2, w3, w4, w5, w6, w7.1, w7.2, w8.1, w8.2, w9.1, w9.2, w10.1, w10.2, w11.1, w11.2, u1, u2, u3, u4, u5, u6, u7.1, u7.2, u8.1, u8.2, u9.1, u9.2, u10.1, u10.2, u11.1, u11.2, a1, a2, b1, b2, a52, a53, b52, b53]
            refine e_step (pc' := 57) hK rfl rfl rfl ?_
            try simp only [List.set_cons_zero, List.set_cons_succ]
            refine e_step (pc' := 59) hK rfl rfl rfl ?_
            refine e_step (pc' := 61) hK rfl rfl rfl ?_
            try simp only [List.set_cons_zero, List.set_cons_succ]
            have h8 := c_iwl1 (sc := sc) (c := c) hl hl2 p q (by omega) (by omega) (by omega) (by omega) (by assumption) ((px f1 n1).2.2.2.1 p).toNat 0 (by have i6 := i5 p (by omega) (by omega); omega) rfl
            simp only [Int.natCast_zero, Int.add_zero, Int.ofNat_zero] at h8
            exact h8
          · replace hb36 := cq_eq.2.mp hb36
            refine e_step (pc' := 40) hK rfl rfl rfl ?_
            refine e_ret hK rfl rfl (by first | rfl | (simp only [mv_ret]; rw [if_pos]; exact Or.inr ⟨rfl, by omega⟩)) ?_
            refine ⟨?_, rfl, rfl⟩
            congr 1
            have hne : px_w n1 f1 p n2 f2 q = false := by
              cases hw : px_w n1 f1 p n2 f2 q with
              | false => rfl
              | true =>
                unfold px_w at hw
                simp only [Bool.and_eq_true, decide_eq_true_eq] at hw
                omega
            rw [hne]; rfl
end LM
