/-! the class's leaf methods, and those of Line (written by wip/whole/m23.py) -/
section LN
variable {sc : Int × (Int → Int)} {c : mv_C} {h : mv_H}
set_option maxRecDepth 10000 in
theorem c_kindOfCharacter (x : Int) (hx : mv_i x) : mv_Cl sc q_LT_kindOfCharacter [(0, x)] c h (mv_Rd (0, px_k x) c h) := by
  show mv_Ev sc 43 0 [(0, x)] [] c h _
  have hK : (mv_m 43).1 = kc_LT_kindOfCharacter := rfl
  refine e_step (pc' := 1) hK rfl rfl rfl ?_
  refine e_step (pc' := 3) hK rfl rfl rfl ?_
  refine e_icmp (t := 14) (pc' := 6) hK rfl (by omega) (by omega) (by decide) rfl (fun hb3 => ?_) (fun hb3 => ?_)
  · replace hb3 := cq_lt.1.mp hb3
    refine e_step (pc' := 15) hK rfl rfl rfl ?_
    refine e_step (pc' := 17) hK rfl rfl rfl ?_
    refine e_icmp (t := 28) (pc' := 20) hK rfl (by omega) (by omega) (by decide) rfl (fun hb17 => ?_) (fun hb17 => ?_)
    · replace hb17 := cq_lt.1.mp hb17
      refine e_step (pc' := 29) hK rfl rfl rfl ?_
      refine e_step (pc' := 31) hK rfl rfl rfl ?_
      refine e_icmp (t := 36) (pc' := 34) hK rfl (by omega) (by omega) (by decide) rfl (fun hb31 => ?_) (fun hb31 => ?_)
      · replace hb31 := cq_ne.1.mp hb31
        refine e_step (pc' := 37) hK rfl rfl rfl ?_
        refine e_step (pc' := 39) hK rfl rfl rfl ?_
        refine e_icmp (t := 48) (pc' := 42) hK rfl (by omega) (by omega) (by decide) rfl (fun hb39 => ?_) (fun hb39 => ?_)
        · replace hb39 := cq_eq.1.mp hb39
          refine e_step (pc' := 49) hK rfl rfl rfl ?_
          refine e_goto (t := 53) hK rfl (by decide) ?_
          refine e_ret hK rfl rfl rfl ?_
          refine ⟨?_, rfl, rfl⟩
          congr 1
          unfold px_k
          repeat' split
          all_goals omega
        · replace hb39 := cq_eq.2.mp hb39
          refine e_step (pc' := 43) hK rfl rfl rfl ?_
          refine e_step (pc' := 45) hK rfl rfl rfl ?_
          refine e_icmp (t := 52) (pc' := 48) hK rfl (by omega) (by omega) (by decide) rfl (fun hb45 => ?_) (fun hb45 => ?_)
          · replace hb45 := cq_ne.1.mp hb45
            refine e_step (pc' := 53) hK rfl rfl rfl ?_
            refine e_ret hK rfl rfl rfl ?_
            refine ⟨?_, rfl, rfl⟩
            congr 1
            unfold px_k
            repeat' split
            all_goals omega
          · replace hb45 := cq_ne.2.mp hb45
            refine e_step (pc' := 49) hK rfl rfl rfl ?_
            refine e_goto (t := 53) hK rfl (by decide) ?_
            refine e_ret hK rfl rfl rfl ?_
            refine ⟨?_, rfl, rfl⟩
            congr 1
            unfold px_k
            repeat' split
            all_goals omega
      · replace hb31 := cq_ne.2.mp hb31
        refine e_step (pc' := 35) hK rfl rfl rfl ?_
        refine e_ret hK rfl rfl rfl ?_
        refine ⟨?_, rfl, rfl⟩
        congr 1
        unfold px_k
        repeat' split
        all_goals omega
    · replace hb17 := cq_lt.2.mp hb17
      refine e_step (pc' := 21) hK rfl rfl rfl ?_
      refine e_step (pc' := 23) hK rfl rfl rfl ?_
      refine e_icmp (t := 28) (pc' := 26) hK rfl (by omega) (by omega) (by decide) rfl (fun hb23 => ?_) (fun hb23 => ?_)
      · replace hb23 := cq_gt.1.mp hb23
        refine e_step (pc' := 29) hK rfl rfl rfl ?_
        refine e_step (pc' := 31) hK rfl rfl rfl ?_
        refine e_icmp (t := 36) (pc' := 34) hK rfl (by omega) (by omega) (by decide) rfl (fun hb31 => ?_) (fun hb31 => ?_)
        · replace hb31 := cq_ne.1.mp hb31
          refine e_step (pc' := 37) hK rfl rfl rfl ?_
          refine e_step (pc' := 39) hK rfl rfl rfl ?_
          refine e_icmp (t := 48) (pc' := 42) hK rfl (by omega) (by omega) (by decide) rfl (fun hb39 => ?_) (fun hb39 => ?_)
          · replace hb39 := cq_eq.1.mp hb39
            refine e_step (pc' := 49) hK rfl rfl rfl ?_
            refine e_goto (t := 53) hK rfl (by decide) ?_
            refine e_ret hK rfl rfl rfl ?_
            refine ⟨?_, rfl, rfl⟩
            congr 1
            unfold px_k
            repeat' split
            all_goals omega
          · replace hb39 := cq_eq.2.mp hb39
            refine e_step (pc' := 43) hK rfl rfl rfl ?_
            refine e_step (pc' := 45) hK rfl rfl rfl ?_
            refine e_icmp (t := 52) (pc' := 48) hK rfl (by omega) (by omega) (by decide) rfl (fun hb45 => ?_) (fun hb45 => ?_)
            · replace hb45 := cq_ne.1.mp hb45
              refine e_step (pc' := 53) hK rfl rfl rfl ?_
              refine e_ret hK rfl rfl rfl ?_
              refine ⟨?_, rfl, rfl⟩
              congr 1
              unfold px_k
              repeat' split
              all_goals omega
            · replace hb45 := cq_ne.2.mp hb45
              refine e_step (pc' := 49) hK rfl rfl rfl ?_
              refine e_goto (t := 53) hK rfl (by decide) ?_
              refine e_ret hK rfl rfl rfl ?_
              refine ⟨?_, rfl, rfl⟩
              congr 1
              unfold px_k
              repeat' split
              all_goals omega
        · replace hb31 := cq_ne.2.mp hb31
          refine e_step (pc' := 35) hK rfl rfl rfl ?_
          refine e_ret hK rfl rfl rfl ?_
          refine ⟨?_, rfl, rfl⟩
          congr 1
          unfold px_k
          repeat' split
          all_goals omega
      · replace hb23 := cq_gt.2.mp hb23
        refine e_step (pc' := 27) hK rfl rfl rfl ?_
        refine e_ret hK rfl rfl rfl ?_
        refine ⟨?_, rfl, rfl⟩
        congr 1
        unfold px_k
        repeat' split
        all_goals omega
  · replace hb3 := cq_lt.2.mp hb3
    refine e_step (pc' := 7) hK rfl rfl rfl ?_
    refine e_step (pc' := 9) hK rfl rfl rfl ?_
    refine e_icmp (t := 14) (pc' := 12) hK rfl (by omega) (by omega) (by decide) rfl (fun hb9 => ?_) (fun hb9 => ?_)
    · replace hb9 := cq_gt.1.mp hb9
      refine e_step (pc' := 15) hK rfl rfl rfl ?_
      refine e_step (pc' := 17) hK rfl rfl rfl ?_
      refine e_icmp (t := 28) (pc' := 20) hK rfl (by omega) (by omega) (by decide) rfl (fun hb17 => ?_) (fun hb17 => ?_)
      · replace hb17 := cq_lt.1.mp hb17
        refine e_step (pc' := 29) hK rfl rfl rfl ?_
        refine e_step (pc' := 31) hK rfl rfl rfl ?_
        refine e_icmp (t := 36) (pc' := 34) hK rfl (by omega) (by omega) (by decide) rfl (fun hb31 => ?_) (fun hb31 => ?_)
        · replace hb31 := cq_ne.1.mp hb31
          refine e_step (pc' := 37) hK rfl rfl rfl ?_
          refine e_step (pc' := 39) hK rfl rfl rfl ?_
          refine e_icmp (t := 48) (pc' := 42) hK rfl (by omega) (by omega) (by decide) rfl (fun hb39 => ?_) (fun hb39 => ?_)
          · replace hb39 := cq_eq.1.mp hb39
            refine e_step (pc' := 49) hK rfl rfl rfl ?_
            refine e_goto (t := 53) hK rfl (by decide) ?_
            refine e_ret hK rfl rfl rfl ?_
            refine ⟨?_, rfl, rfl⟩
            congr 1
            unfold px_k
            repeat' split
            all_goals omega
          · replace hb39 := cq_eq.2.mp hb39
            refine e_step (pc' := 43) hK rfl rfl rfl ?_
            refine e_step (pc' := 45) hK rfl rfl rfl ?_
            refine e_icmp (t := 52) (pc' := 48) hK rfl (by omega) (by omega) (by decide) rfl (fun hb45 => ?_) (fun hb45 => ?_)
            · replace hb45 := cq_ne.1.mp hb45
              refine e_step (pc' := 53) hK rfl rfl rfl ?_
              refine e_ret hK rfl rfl rfl ?_
              refine ⟨?_, rfl, rfl⟩
              congr 1
              unfold px_k
              repeat' split
              all_goals omega
            · replace hb45 := cq_ne.2.mp hb45
              refine e_step (pc' := 49) hK rfl rfl rfl ?_
              refine e_goto (t := 53) hK rfl (by decide) ?_
              refine e_ret hK rfl rfl rfl ?_
              refine ⟨?_, rfl, rfl⟩
              congr 1
              unfold px_k
              repeat' split
              all_goals omega
        · replace hb31 := cq_ne.2.mp hb31
          refine e_step (pc' := 35) hK rfl rfl rfl ?_
          refine e_ret hK rfl rfl rfl ?_
          refine ⟨?_, rfl, rfl⟩
          congr 1
          unfold px_k
          repeat' split
          all_goals omega
      · replace hb17 := cq_lt.2.mp hb17
        refine e_step (pc' := 21) hK rfl rfl rfl ?_
        refine e_step (pc' := 23) hK rfl rfl rfl ?_
        refine e_icmp (t := 28) (pc' := 26) hK rfl (by omega) (by omega) (by decide) rfl (fun hb23 => ?_) (fun hb23 => ?_)
        · replace hb23 := cq_gt.1.mp hb23
          refine e_step (pc' := 29) hK rfl rfl rfl ?_
          refine e_step (pc' := 31) hK rfl rfl rfl ?_
          refine e_icmp (t := 36) (pc' := 34) hK rfl (by omega) (by omega) (by decide) rfl (fun hb31 => ?_) (fun hb31 => ?_)
          · replace hb31 := cq_ne.1.mp hb31
            refine e_step (pc' := 37) hK rfl rfl rfl ?_
            refine e_step (pc' := 39) hK rfl rfl rfl ?_
            refine e_icmp (t := 48) (pc' := 42) hK rfl (by omega) (by omega) (by decide) rfl (fun hb39 => ?_) (fun hb39 => ?_)
            · replace hb39 := cq_eq.1.mp hb39
              refine e_step (pc' := 49) hK rfl rfl rfl ?_
              refine e_goto (t := 53) hK rfl (by decide) ?_
              refine e_ret hK rfl rfl rfl ?_
              refine ⟨?_, rfl, rfl⟩
              congr 1
              unfold px_k
              repeat' split
              all_goals omega
            · replace hb39 := cq_eq.2.mp hb39
              refine e_step (pc' := 43) hK rfl rfl rfl ?_
              refine e_step (pc' := 45) hK rfl rfl rfl ?_
              refine e_icmp (t := 52) (pc' := 48) hK rfl (by omega) (by omega) (by decide) rfl (fun hb45 => ?_) (fun hb45 => ?_)
              · replace hb45 := cq_ne.1.mp hb45
                refine e_step (pc' := 53) hK rfl rfl rfl ?_
                refine e_ret hK rfl rfl rfl ?_
                refine ⟨?_, rfl, rfl⟩
                congr 1
                unfold px_k
                repeat' split
                all_goals omega
              · replace hb45 := cq_ne.2.mp hb45
                refine e_step (pc' := 49) hK rfl rfl rfl ?_
                refine e_goto (t := 53) hK rfl (by decide) ?_
                refine e_ret hK rfl rfl rfl ?_
                refine ⟨?_, rfl, rfl⟩
                congr 1
                unfold px_k
                repeat' split
                all_goals omega
          · replace hb31 := cq_ne.2.mp hb31
            refine e_step (pc' := 35) hK rfl rfl rfl ?_
            refine e_ret hK rfl rfl rfl ?_
            refine ⟨?_, rfl, rfl⟩
            congr 1
            unfold px_k
            repeat' split
            all_goals omega
        · replace hb23 := cq_gt.2.mp hb23
          refine e_step (pc' := 27) hK rfl rfl rfl ?_
          refine e_ret hK rfl rfl rfl ?_
          refine ⟨?_, rfl, rfl⟩
          congr 1
          unfold px_k
          repeat' split
          all_goals omega
    · replace hb9 := cq_gt.2.mp hb9
      refine e_step (pc' := 13) hK rfl rfl rfl ?_
      refine e_ret hK rfl rfl rfl ?_
      refine ⟨?_, rfl, rfl⟩
      congr 1
      unfold px_k
      repeat' split
      all_goals omega
set_option maxRecDepth 10000 in
theorem c_max (x z : Int) (hx : mv_i x) (hz : mv_i z) : mv_Cl sc q_Math_max [(0, x), (0, z)] c h (mv_Rd (0, if x < z then z else x) c h) := by
  show mv_Ev sc 1 0 [(0, x), (0, z)] [] c h _
  have hK : (mv_m 1).1 = kc_Math_max := rfl
  refine e_step (pc' := 1) hK rfl rfl rfl ?_
  refine e_step (pc' := 2) hK rfl rfl rfl ?_
  refine e_icmp (t := 9) (pc' := 5) hK rfl (by omega) (by omega) (by decide) rfl (fun hb2 => ?_) (fun hb2 => ?_)
  · replace hb2 := cq_lt.1.mp hb2
    refine e_step (pc' := 10) hK rfl rfl rfl ?_
    refine e_ret hK rfl rfl rfl ?_
    refine ⟨?_, rfl, rfl⟩
    congr 1
    split <;> omega
  · replace hb2 := cq_lt.2.mp hb2
    refine e_step (pc' := 6) hK rfl rfl rfl ?_
    refine e_goto (t := 10) hK rfl (by decide) ?_
    refine e_ret hK rfl rfl rfl ?_
    refine ⟨?_, rfl, rfl⟩
    congr 1
    split <;> omega
set_option maxRecDepth 10000 in
theorem c_min (x z : Int) (hx : mv_i x) (hz : mv_i z) : mv_Cl sc q_Math_min [(0, x), (0, z)] c h (mv_Rd (0, if x ≤ z then x else z) c h) := by
  show mv_Ev sc 2 0 [(0, x), (0, z)] [] c h _
  have hK : (mv_m 2).1 = kc_Math_min := rfl
  refine e_step (pc' := 1) hK rfl rfl rfl ?_
  refine e_step (pc' := 2) hK rfl rfl rfl ?_
  refine e_icmp (t := 9) (pc' := 5) hK rfl (by omega) (by omega) (by decide) rfl (fun hb2 => ?_) (fun hb2 => ?_)
  · replace hb2 := cq_gt.1.mp hb2
    refine e_step (pc' := 10) hK rfl rfl rfl ?_
    refine e_ret hK rfl rfl rfl ?_
    refine ⟨?_, rfl, rfl⟩
    congr 1
    split <;> omega
  · replace hb2 := cq_gt.2.mp hb2
    refine e_step (pc' := 6) hK rfl rfl rfl ?_
    refine e_goto (t := 10) hK rfl (by decide) ?_
    refine e_ret hK rfl rfl rfl ?_
    refine ⟨?_, rfl, rfl⟩
    congr 1
    split <;> omega
set_option maxRecDepth 10000 in
theorem c_kindAt {l : Int} {n : Nat} {f : Int → Int} (hl : LnA h l n f) (p : Int) (hp : mv_i p) : mv_Cl sc q_Line_kindAt [(2, l), (0, p)] c h (mv_Rd (0, px_kd (px f n) p) c h) := by
  have hI := hl.I
  obtain ⟨i1, i2, i3, i4, i5⟩ := id hI
  obtain ⟨⟨w0, w1, w2, w3, w4, w5, w6, w7, w8, w9, w10, w11⟩, a1, a2, a3, a4, a5⟩ := hl
  show mv_Ev sc 8 0 [(2, l), (0, p)] [] c h _
  have hK : (mv_m 8).1 = kc_Line_kindAt := rfl
  refine e_step (pc' := 1) hK rfl rfl rfl ?_
  refine e_if (t := 21) (pc' := 4) hK rfl (by omega) (by decide) rfl (fun hb1 => ?_) (fun hb1 => ?_)
  · replace hb1 := cq_lt.1.mp hb1
    refine e_step (pc' := 22) hK rfl rfl rfl ?_
    refine e_ret hK rfl rfl rfl ?_
    refine ⟨?_, rfl, rfl⟩
    congr 1
    unfold px_kd
    first | (rw [if_neg (by omega)]; done) | (rw [if_pos (by omega)]; exact (a5 p (by omega) (by omega)).1)
  · replace hb1 := cq_lt.2.mp hb1
    refine e_step (pc' := 5) hK rfl rfl rfl ?_
    refine e_step (pc' := 6) hK rfl rfl rfl ?_
    refine e_getI (ci := 1) (k := 6) (pc' := 9) hK rfl (by simp only [w1, w2, w3, w4, w5, w6, w7.1, w7.2, w8.1, w8.2, w9.1, w9.2, w10.1, w10.2, w11.1, w11.2, a1, a2]) rfl rfl (by decide) (by decide) rfl ?_
    try simp only [w1, w2, w3, w4, w5, w6, w7.1, w7.2, w8.1, w8.2, w9.1, w9.2, w10.1, w10.2, w11.1, w11.2, a1, a2]
    refine e_icmp (t := 21) (pc' := 12) hK rfl (by omega) (by omega) (by decide) rfl (fun hb9 => ?_) (fun hb9 => ?_)
    · replace hb9 := cq_ge.1.mp hb9
      refine e_step (pc' := 22) hK rfl rfl rfl ?_
      refine e_ret hK rfl rfl rfl ?_
      refine ⟨?_, rfl, rfl⟩
      congr 1
      unfold px_kd
      first | (rw [if_neg (by omega)]; done) | (rw [if_pos (by omega)]; exact (a5 p (by omega) (by omega)).1)
    · replace hb9 := cq_ge.2.mp hb9
      refine e_step (pc' := 13) hK rfl rfl rfl ?_
      refine e_getR (ci := 1) (k := 1) (pc' := 16) hK rfl (by simp only [w1, w2, w3, w4, w5, w6, w7.1, w7.2, w8.1, w8.2, w9.1, w9.2, w10.1, w10.2, w11.1, w11.2, a1, a2]) rfl rfl (by decide) (by decide) (by simp only [w1, w2, w3, w4, w5, w6, w7.1, w7.2, w8.1, w8.2, w9.1, w9.2, w10.1, w10.2, w11.1, w11.2, a1, a2]; omega) rfl ?_
      try simp only [w1, w2, w3, w4, w5, w6, w7.1, w7.2, w8.1, w8.2, w9.1, w9.2, w10.1, w10.2, w11.1, w11.2, a1, a2]
      refine e_step (pc' := 17) hK rfl rfl rfl ?_
      refine e_iald (pc' := 18) hK rfl (by simp only [w1, w2, w3, w4, w5, w6, w7.1, w7.2, w8.1, w8.2, w9.1, w9.2, w10.1, w10.2, w11.1, w11.2, a1, a2]) (by omega) (by simp only [w1, w2, w3, w4, w5, w6, w7.1, w7.2, w8.1, w8.2, w9.1, w9.2, w10.1, w10.2, w11.1, w11.2, a1, a2]; omega) rfl ?_
      try simp only [w1, w2, w3, w4, w5, w6, w7.1, w7.2, w8.1, w8.2, w9.1, w9.2, w10.1, w10.2, w11.1, w11.2, a1, a2]
      refine e_goto (t := 22) hK rfl (by decide) ?_
      refine e_ret hK rfl rfl rfl ?_
      refine ⟨?_, rfl, rfl⟩
      congr 1
      unfold px_kd
      first | (rw [if_neg (by omega)]; done) | (rw [if_pos (by omega)]; exact (a5 p (by omega) (by omega)).1)
set_option maxRecDepth 10000 in
theorem c_sizeAt {l : Int} {n : Nat} {f : Int → Int} (hl : LnA h l n f) (p : Int) (hp : mv_i p) : mv_Cl sc q_Line_sizeAt [(2, l), (0, p)] c h (mv_Rd (0, px_sz (px f n) p) c h) := by
  have hI := hl.I
  obtain ⟨i1, i2, i3, i4, i5⟩ := id hI
  obtain ⟨⟨w0, w1, w2, w3, w4, w5, w6, w7, w8, w9, w10, w11⟩, a1, a2, a3, a4, a5⟩ := hl
  show mv_Ev sc 10 0 [(2, l), (0, p)] [] c h _
  have hK : (mv_m 10).1 = kc_Line_sizeAt := rfl
  refine e_step (pc' := 1) hK rfl rfl rfl ?_
  refine e_if (t := 21) (pc' := 4) hK rfl (by omega) (by decide) rfl (fun hb1 => ?_) (fun hb1 => ?_)
  · replace hb1 := cq_lt.1.mp hb1
    refine e_step (pc' := 22) hK rfl rfl rfl ?_
    refine e_ret hK rfl rfl rfl ?_
    refine ⟨?_, rfl, rfl⟩
    congr 1
    unfold px_sz
    first | (rw [if_neg (by omega)]; done) | (rw [if_pos (by omega)]; exact (a5 p (by omega) (by omega)).2.2.1)
  · replace hb1 := cq_lt.2.mp hb1
    refine e_step (pc' := 5) hK rfl rfl rfl ?_
    refine e_step (pc' := 6) hK rfl rfl rfl ?_
    refine e_getI (ci := 1) (k := 6) (pc' := 9) hK rfl (by simp only [w1, w2, w3, w4, w5, w6, w7.1, w7.2, w8.1, w8.2, w9.1, w9.2, w10.1, w10.2, w11.1, w11.2, a1, a2]) rfl rfl (by decide) (by decide) rfl ?_
    try simp only [w1, w2, w3, w4, w5, w6, w7.1, w7.2, w8.1, w8.2, w9.1, w9.2, w10.1, w10.2, w11.1, w11.2, a1, a2]
    refine e_icmp (t := 21) (pc' := 12) hK rfl (by omega) (by omega) (by decide) rfl (fun hb9 => ?_) (fun hb9 => ?_)
    · replace hb9 := cq_ge.1.mp hb9
      refine e_step (pc' := 22) hK rfl rfl rfl ?_
      refine e_ret hK rfl rfl rfl ?_
      refine ⟨?_, rfl, rfl⟩
      congr 1
      unfold px_sz
      first | (rw [if_neg (by omega)]; done) | (rw [if_pos (by omega)]; exact (a5 p (by omega) (by omega)).2.2.1)
    · replace hb9 := cq_ge.2.mp hb9
      refine e_step (pc' := 13) hK rfl rfl rfl ?_
      refine e_getR (ci := 1) (k := 3) (pc' := 16) hK rfl (by simp only [w1, w2, w3, w4, w5, w6, w7.1, w7.2, w8.1, w8.2, w9.1, w9.2, w10.1, w10.2, w11.1, w11.2, a1, a2]) rfl rfl (by decide) (by decide) (by simp only [w1, w2, w3, w4, w5, w6, w7.1, w7.2, w8.1, w8.2, w9.1, w9.2, w10.1, w10.2, w11.1, w11.2, a1, a2]; omega) rfl ?_
      try simp only [w1, w2, w3, w4, w5, w6, w7.1, w7.2, w8.1, w8.2, w9.1, w9.2, w10.1, w10.2, w11.1, w11.2, a1, a2]
      refine e_step (pc' := 17) hK rfl rfl rfl ?_
      refine e_iald (pc' := 18) hK rfl (by simp only [w1, w2, w3, w4, w5, w6, w7.1, w7.2, w8.1, w8.2, w9.1, w9.2, w10.1, w10.2, w11.1, w11.2, a1, a2]) (by omega) (by simp only [w1, w2, w3, w4, w5, w6, w7.1, w7.2, w8.1, w8.2, w9.1, w9.2, w10.1, w10.2, w11.1, w11.2, a1, a2]; omega) rfl ?_
      try simp only [w1, w2, w3, w4, w5, w6, w7.1, w7.2, w8.1, w8.2, w9.1, w9.2, w10.1, w10.2, w11.1, w11.2, a1, a2]
      refine e_goto (t := 22) hK rfl (by decide) ?_
      refine e_ret hK rfl rfl rfl ?_
      refine ⟨?_, rfl, rfl⟩
      congr 1
      unfold px_sz
      first | (rw [if_neg (by omega)]; done) | (rw [if_pos (by omega)]; exact (a5 p (by omega) (by omega)).2.2.1)
set_option maxRecDepth 10000 in
theorem c_startAt {l : Int} {n : Nat} {f : Int → Int} (hl : LnA h l n f) (p : Int) (hp : mv_i p) : mv_Cl sc q_Line_startAt [(2, l), (0, p)] c h (mv_Rd (0, px_st (px f n) n p) c h) := by
  have hI := hl.I
  obtain ⟨i1, i2, i3, i4, i5⟩ := id hI
  obtain ⟨⟨w0, w1, w2, w3, w4, w5, w6, w7, w8, w9, w10, w11⟩, a1, a2, a3, a4, a5⟩ := hl
  show mv_Ev sc 13 0 [(2, l), (0, p)] [] c h _
  have hK : (mv_m 13).1 = kc_Line_startAt := rfl
  refine e_step (pc' := 1) hK rfl rfl rfl ?_
  refine e_if (t := 21) (pc' := 4) hK rfl (by omega) (by decide) rfl (fun hb1 => ?_) (fun hb1 => ?_)
  · replace hb1 := cq_lt.1.mp hb1
    refine e_step (pc' := 22) hK rfl rfl rfl ?_
    refine e_getI (ci := 1) (k := 5) (pc' := 25) hK rfl (by simp only [w1, w2, w3, w4, w5, w6, w7.1, w7.2, w8.1, w8.2, w9.1, w9.2, w10.1, w10.2, w11.1, w11.2, a1, a2]) rfl rfl (by decide) (by decide) rfl ?_
    try simp only [w1, w2, w3, w4, w5, w6, w7.1, w7.2, w8.1, w8.2, w9.1, w9.2, w10.1, w10.2, w11.1, w11.2, a1, a2]
    refine e_ret hK rfl rfl rfl ?_
    refine ⟨?_, rfl, rfl⟩
    congr 1
    unfold px_st
    first | (rw [if_neg (by omega)]; done) | (rw [if_pos (by omega)]; exact (a5 p (by omega) (by omega)).2.1)
  · replace hb1 := cq_lt.2.mp hb1
    refine e_step (pc' := 5) hK rfl rfl rfl ?_
    refine e_step (pc' := 6) hK rfl rfl rfl ?_
    refine e_getI (ci := 1) (k := 6) (pc' := 9) hK rfl (by simp only [w1, w2, w3, w4, w5, w6, w7.1, w7.2, w8.1, w8.2, w9.1, w9.2, w10.1, w10.2, w11.1, w11.2, a1, a2]) rfl rfl (by decide) (by decide) rfl ?_
    try simp only [w1, w2, w3, w4, w5, w6, w7.1, w7.2, w8.1, w8.2, w9.1, w9.2, w10.1, w10.2, w11.1, w11.2, a1, a2]
    refine e_icmp (t := 21) (pc' := 12) hK rfl (by omega) (by omega) (by decide) rfl (fun hb9 => ?_) (fun hb9 => ?_)
    · replace hb9 := cq_ge.1.mp hb9
      refine e_step (pc' := 22) hK rfl rfl rfl ?_
      refine e_getI (ci := 1) (k := 5) (pc' := 25) hK rfl (by simp only [w1, w2, w3, w4, w5, w6, w7.1, w7.2, w8.1, w8.2, w9.1, w9.2, w10.1, w10.2, w11.1, w11.2, a1, a2]) rfl rfl (by decide) (by decide) rfl ?_
      try simp only [w1, w2, w3, w4, w5, w6, w7.1, w7.2, w8.1, w8.2, w9.1, w9.2, w10.1, w10.2, w11.1, w11.2, a1, a2]
      refine e_ret hK rfl rfl rfl ?_
      refine ⟨?_, rfl, rfl⟩
      congr 1
      unfold px_st
      first | (rw [if_neg (by omega)]; done) | (rw [if_pos (by omega)]; exact (a5 p (by omega) (by omega)).2.1)
    · replace hb9 := cq_ge.2.mp hb9
      refine e_step (pc' := 13) hK rfl rfl rfl ?_
      refine e_getR (ci := 1) (k := 2) (pc' := 16) hK rfl (by simp only [w1, w2, w3, w4, w5, w6, w7.1, w7.2, w8.1, w8.2, w9.1, w9.2, w10.1, w10.2, w11.1, w11.2, a1, a2]) rfl rfl (by decide) (by decide) (by simp only [w1, w2, w3, w4, w5, w6, w7.1, w7.2, w8.1, w8.2, w9.1, w9.2, w10.1, w10.2, w11.1, w11.2, a1, a2]; omega) rfl ?_
      try simp only [w1, w2, w3, w4, w5, w6, w7.1, w7.2, w8.1, w8.2, w9.1, w9.2, w10.1, w10.2, w11.1, w11.2, a1, a2]
      refine e_step (pc' := 17) hK rfl rfl rfl ?_
      refine e_iald (pc' := 18) hK rfl (by simp only [w1, w2, w3, w4, w5, w6, w7.1, w7.2, w8.1, w8.2, w9.1, w9.2, w10.1, w10.2, w11.1, w11.2, a1, a2]) (by omega) (by simp only [w1, w2, w3, w4, w5, w6, w7.1, w7.2, w8.1, w8.2, w9.1, w9.2, w10.1, w10.2, w11.1, w11.2, a1, a2]; omega) rfl ?_
      try simp only [w1, w2, w3, w4, w5, w6, w7.1, w7.2, w8.1, w8.2, w9.1, w9.2, w10.1, w10.2, w11.1, w11.2, a1, a2]
      refine e_goto (t := 25) hK rfl (by decide) ?_
      refine e_ret hK rfl rfl rfl ?_
      refine ⟨?_, rfl, rfl⟩
      congr 1
      unfold px_st
      first | (rw [if_neg (by omega)]; done) | (rw [if_pos (by omega)]; exact (a5 p (by omega) (by omega)).2.1)
set_option maxRecDepth 10000 in
theorem c_characterAt {l : Int} {n : Nat} {f : Int → Int} (hl : LnA h l n f) (p : Int) (hp : mv_i p) : mv_Cl sc q_Line_characterAt [(2, l), (0, p)] c h (mv_Rd (0, px_ch n f p) c h) := by
  have hI := hl.I
  obtain ⟨i1, i2, i3, i4, i5⟩ := id hI
  obtain ⟨⟨w0, w1, w2, w3, w4, w5, w6, w7, w8, w9, w10, w11⟩, a1, a2, a3, a4, a5⟩ := hl
  show mv_Ev sc 12 0 [(2, l), (0, p)] [] c h _
  have hK : (mv_m 12).1 = kc_Line_characterAt := rfl
  refine e_step (pc' := 1) hK rfl rfl rfl ?_
  refine e_if (t := 12) (pc' := 4) hK rfl (by omega) (by decide) rfl (fun hb1 => ?_) (fun hb1 => ?_)
  · replace hb1 := cq_lt.1.mp hb1
    refine e_step (pc' := 15) hK rfl rfl rfl ?_
    refine e_ret hK rfl rfl rfl ?_
    refine ⟨?_, rfl, rfl⟩
    congr 1
    unfold px_ch
    first | (rw [if_neg (by omega)]; done) | (rw [if_pos (by omega)]; exact a4 p (by omega) (by omega))
  · replace hb1 := cq_lt.2.mp hb1
    refine e_step (pc' := 5) hK rfl rfl rfl ?_
    refine e_step (pc' := 6) hK rfl rfl rfl ?_
    refine e_getI (ci := 1) (k := 5) (pc' := 9) hK rfl (by simp only [w1, w2, w3, w4, w5, w6, w7.1, w7.2, w8.1, w8.2, w9.1, w9.2, w10.1, w10.2, w11.1, w11.2, a1, a2]) rfl rfl (by decide) (by decide) rfl ?_
    try simp only [w1, w2, w3, w4, w5, w6, w7.1, w7.2, w8.1, w8.2, w9.1, w9.2, w10.1, w10.2, w11.1, w11.2, a1, a2]
    refine e_icmp (t := 16) (pc' := 12) hK rfl (by omega) (by omega) (by decide) rfl (fun hb9 => ?_) (fun hb9 => ?_)
    · replace hb9 := cq_lt.1.mp hb9
      refine e_step (pc' := 17) hK rfl rfl rfl ?_
      refine e_getR (ci := 1) (k := 0) (pc' := 20) hK rfl (by simp only [w1, w2, w3, w4, w5, w6, w7.1, w7.2, w8.1, w8.2, w9.1, w9.2, w10.1, w10.2, w11.1, w11.2, a1, a2]) rfl rfl (by decide) (by decide) (by simp only [w1, w2, w3, w4, w5, w6, w7.1, w7.2, w8.1, w8.2, w9.1, w9.2, w10.1, w10.2, w11.1, w11.2, a1, a2]; omega) rfl ?_
      try simp only [w1, w2, w3, w4, w5, w6, w7.1, w7.2, w8.1, w8.2, w9.1, w9.2, w10.1, w10.2, w11.1, w11.2, a1, a2]
      refine e_step (pc' := 21) hK rfl rfl rfl ?_
      refine e_cald (pc' := 22) hK rfl (by simp only [w1, w2, w3, w4, w5, w6, w7.1, w7.2, w8.1, w8.2, w9.1, w9.2, w10.1, w10.2, w11.1, w11.2, a1, a2]) (by omega) (by simp only [w1, w2, w3, w4, w5, w6, w7.1, w7.2, w8.1, w8.2, w9.1, w9.2, w10.1, w10.2, w11.1, w11.2, a1, a2]; omega) rfl ?_
      try simp only [w1, w2, w3, w4, w5, w6, w7.1, w7.2, w8.1, w8.2, w9.1, w9.2, w10.1, w10.2, w11.1, w11.2, a1, a2]
      refine e_ret hK rfl rfl rfl ?_
      refine ⟨?_, rfl, rfl⟩
      congr 1
      unfold px_ch
      first | (rw [if_neg (by omega)]; done) | (rw [if_pos (by omega)]; exact a4 p (by omega) (by omega))
    · replace hb9 := cq_lt.2.mp hb9
      refine e_step (pc' := 15) hK rfl rfl rfl ?_
      refine e_ret hK rfl rfl rfl ?_
      refine ⟨?_, rfl, rfl⟩
      congr 1
      unfold px_ch
      first | (rw [if_neg (by omega)]; done) | (rw [if_pos (by omega)]; exact a4 p (by omega) (by omega))
set_option maxRecDepth 10000 in
theorem c_valueAt {l : Int} {n : Nat} {f : Int → Int} (hl : LnA h l n f) (p : Int) (hp : mv_i p) : mv_Cl sc q_Line_valueAt [(2, l), (0, p)] c h (mv_Rd (0, px_vl (px f n) p) c h) := by
  have hI := hl.I
  obtain ⟨i1, i2, i3, i4, i5⟩ := id hI
  obtain ⟨⟨w0, w1, w2, w3, w4, w5, w6, w7, w8, w9, w10, w11⟩, a1, a2, a3, a4, a5⟩ := hl
  show mv_Ev sc 11 0 [(2, l), (0, p)] [] c h _
  have hK : (mv_m 11).1 = kc_Line_valueAt := rfl
  refine e_step (pc' := 1) hK rfl rfl rfl ?_
  refine e_if (t := 31) (pc' := 4) hK rfl (by first | omega | (have h8 := a5 p (by omega) (by omega); have h9 := i5 p (by omega) (by omega); omega)) (by decide) rfl (fun hb1 => ?_) (fun hb1 => ?_)
  · replace hb1 := cq_lt.1.mp hb1
    refine e_step (pc' := 34) hK rfl rfl rfl ?_
    refine e_ret hK rfl rfl rfl ?_
    refine ⟨?_, rfl, rfl⟩
    congr 1
    unfold px_vl
    first | (rw [if_neg (by omega)]; done) | (have h8 := a5 p (by omega) (by omega); first | (rw [if_neg (by omega)]; done) | (rw [if_pos (by omega)]; exact h8.2.2.2))
  · replace hb1 := cq_lt.2.mp hb1
    refine e_step (pc' := 5) hK rfl rfl rfl ?_
    refine e_step (pc' := 6) hK rfl rfl rfl ?_
    refine e_getI (ci := 1) (k := 6) (pc' := 9) hK rfl (by simp only [w1, w2, w3, w4, w5, w6, w7.1, w7.2, w8.1, w8.2, w9.1, w9.2, w10.1, w10.2, w11.1, w11.2, a1, a2]) rfl rfl (by decide) (by decide) rfl ?_
    try simp only [w1, w2, w3, w4, w5, w6, w7.1, w7.2, w8.1, w8.2, w9.1, w9.2, w10.1, w10.2, w11.1, w11.2, a1, a2]
    refine e_icmp (t := 31) (pc' := 12) hK rfl (by first | omega | (have h8 := a5 p (by omega) (by omega); have h9 := i5 p (by omega) (by omega); omega)) (by first | omega | (have h8 := a5 p (by omega) (by omega); have h9 := i5 p (by omega) (by omega); omega)) (by decide) rfl (fun hb9 => ?_) (fun hb9 => ?_)
    · replace hb9 := cq_ge.1.mp hb9
      refine e_step (pc' := 34) hK rfl rfl rfl ?_
      refine e_ret hK rfl rfl rfl ?_
      refine ⟨?_, rfl, rfl⟩
      congr 1
      unfold px_vl
      first | (rw [if_neg (by omega)]; done) | (have h8 := a5 p (by omega) (by omega); first | (rw [if_neg (by omega)]; done) | (rw [if_pos (by omega)]; exact h8.2.2.2))
    · replace hb9 := cq_ge.2.mp hb9
      refine e_step (pc' := 13) hK rfl rfl rfl ?_
      refine e_getR (ci := 1) (k := 1) (pc' := 16) hK rfl (by simp only [w1, w2, w3, w4, w5, w6, w7.1, w7.2, w8.1, w8.2, w9.1, w9.2, w10.1, w10.2, w11.1, w11.2, a1, a2]) rfl rfl (by decide) (by decide) (by simp only [w1, w2, w3, w4, w5, w6, w7.1, w7.2, w8.1, w8.2, w9.1, w9.2, w10.1, w10.2, w11.1, w11.2, a1, a2]; first | omega | (have h8 := a5 p (by omega) (by omega); have h9 := i5 p (by omega) (by omega); omega)) rfl ?_
      try simp only [w1, w2, w3, w4, w5, w6, w7.1, w7.2, w8.1, w8.2, w9.1, w9.2, w10.1, w10.2, w11.1, w11.2, a1, a2]
      refine e_step (pc' := 17) hK rfl rfl rfl ?_
      refine e_iald (pc' := 18) hK rfl (by simp only [w1, w2, w3, w4, w5, w6, w7.1, w7.2, w8.1, w8.2, w9.1, w9.2, w10.1, w10.2, w11.1, w11.2, a1, a2]) (by first | omega | (have h8 := a5 p (by omega) (by omega); have h9 := i5 p (by omega) (by omega); omega)) (by simp only [w1, w2, w3, w4, w5, w6, w7.1, w7.2, w8.1, w8.2, w9.1, w9.2, w10.1, w10.2, w11.1, w11.2, a1, a2]; first | omega | (have h8 := a5 p (by omega) (by omega); have h9 := i5 p (by omega) (by omega); omega)) rfl ?_
      try simp only [w1, w2, w3, w4, w5, w6, w7.1, w7.2, w8.1, w8.2, w9.1, w9.2, w10.1, w10.2, w11.1, w11.2, a1, a2]
      refine e_step (pc' := 19) hK rfl rfl rfl ?_
      refine e_icmp (t := 31) (pc' := 22) hK rfl (by first | omega | (have h8 := a5 p (by omega) (by omega); have h9 := i5 p (by omega) (by omega); omega)) (by first | omega | (have h8 := a5 p (by omega) (by omega); have h9 := i5 p (by omega) (by omega); omega)) (by decide) rfl (fun hb19 => ?_) (fun hb19 => ?_)
      · replace hb19 := cq_ne.1.mp hb19
        refine e_step (pc' := 34) hK rfl rfl rfl ?_
        refine e_ret hK rfl rfl rfl ?_
        refine ⟨?_, rfl, rfl⟩
        congr 1
        unfold px_vl
        first | (rw [if_neg (by omega)]; done) | (have h8 := a5 p (by omega) (by omega); first | (rw [if_neg (by omega)]; done) | (rw [if_pos (by omega)]; exact h8.2.2.2))
      · replace hb19 := cq_ne.2.mp hb19
        refine e_step (pc' := 23) hK rfl rfl rfl ?_
        refine e_getR (ci := 1) (k := 4) (pc' := 26) hK rfl (by simp only [w1, w2, w3, w4, w5, w6, w7.1, w7.2, w8.1, w8.2, w9.1, w9.2, w10.1, w10.2, w11.1, w11.2, a1, a2]) rfl rfl (by decide) (by decide) (by simp only [w1, w2, w3, w4, w5, w6, w7.1, w7.2, w8.1, w8.2, w9.1, w9.2, w10.1, w10.2, w11.1, w11.2, a1, a2]; first | omega | (have h8 := a5 p (by omega) (by omega); have h9 := i5 p (by omega) (by omega); omega)) rfl ?_
        try simp only [w1, w2, w3, w4, w5, w6, w7.1, w7.2, w8.1, w8.2, w9.1, w9.2, w10.1, w10.2, w11.1, w11.2, a1, a2]
        refine e_step (pc' := 27) hK rfl rfl rfl ?_
        refine e_iald (pc' := 28) hK rfl (by simp only [w1, w2, w3, w4, w5, w6, w7.1, w7.2, w8.1, w8.2, w9.1, w9.2, w10.1, w10.2, w11.1, w11.2, a1, a2]) (by first | omega | (have h8 := a5 p (by omega) (by omega); have h9 := i5 p (by omega) (by omega); omega)) (by simp only [w1, w2, w3, w4, w5, w6, w7.1, w7.2, w8.1, w8.2, w9.1, w9.2, w10.1, w10.2, w11.1, w11.2, a1, a2]; first | omega | (have h8 := a5 p (by omega) (by omega); have h9 := i5 p (by omega) (by omega); omega)) rfl ?_
        try simp only [w1, w2, w3, w4, w5, w6, w7.1, w7.2, w8.1, w8.2, w9.1, w9.2, w10.1, w10.2, w11.1, w11.2, a1, a2]
        refine e_goto (t := 34) hK rfl (by decide) ?_
        refine e_ret hK rfl rfl rfl ?_
        refine ⟨?_, rfl, rfl⟩
        congr 1
        unfold px_vl
        first | (rw [if_neg (by omega)]; done) | (have h8 := a5 p (by omega) (by omega); first | (rw [if_neg (by omega)]; done) | (rw [if_pos (by omega)]; exact h8.2.2.2))
set_option maxRecDepth 10000 in
theorem c_grows {l : Int} {n : Nat} {f : Int → Int} (hl : LnA h l n f) (k : Int) (hk : mv_i k) : mv_Cl sc q_Line_growsLastPiece [(2, l), (0, k)] c h (mv_Rd (0, mv_bo (px_g (px f n) k)) c h) := by
  have hI := hl.I
  obtain ⟨i1, i2, i3, i4, i5⟩ := id hI
  obtain ⟨⟨w0, w1, w2, w3, w4, w5, w6, w7, w8, w9, w10, w11⟩, a1, a2, a3, a4, a5⟩ := id hl
  show mv_Ev sc 7 0 [(2, l), (0, k)] [] c h _
  have hK : (mv_m 7).1 = kc_Line_growsLastPiece := rfl
  refine e_step (pc' := 1) hK rfl rfl rfl ?_
  refine e_step (pc' := 2) hK rfl rfl rfl ?_
  refine e_icmp (t := 30) (pc' := 5) hK rfl (by first | omega | exact px_kd_i hI _) (by first | omega | exact px_kd_i hI _) (by decide) rfl (fun hb2 => ?_) (fun hb2 => ?_)
  · replace hb2 := cq_eq.1.mp hb2
    refine e_step (pc' := 31) hK rfl rfl rfl ?_
    refine e_ret hK rfl rfl (by first | rfl | (simp only [mv_ret]; rw [if_pos]; exact Or.inr ⟨rfl, by omega⟩)) ?_
    refine ⟨?_, rfl, rfl⟩
    congr 1
    unfold px_g mv_bo
    unfold px_kd at *
    first | (rw [if_pos (by simp only [Bool.and_eq_true, decide_eq_true_eq]; rw [if_pos (by omega)] at *; omega)]; done) | (rw [if_neg (by simp only [Bool.and_eq_true, decide_eq_true_eq]; first | omega | (rw [if_pos (by omega)] at *; omega))])
  · replace hb2 := cq_eq.2.mp hb2
    refine e_step (pc' := 6) hK rfl rfl rfl ?_
    refine e_getI (ci := 1) (k := 6) (pc' := 9) hK rfl (by simp only [w1, w2, w3, w4, w5, w6, w7.1, w7.2, w8.1, w8.2, w9.1, w9.2, w10.1, w10.2, w11.1, w11.2, a1, a2]) rfl rfl (by decide) (by decide) rfl ?_
    try simp only [w1, w2, w3, w4, w5, w6, w7.1, w7.2, w8.1, w8.2, w9.1, w9.2, w10.1, w10.2, w11.1, w11.2, a1, a2]
    refine e_if (t := 30) (pc' := 12) hK rfl (by first | omega | exact px_kd_i hI _) (by decide) rfl (fun hb9 => ?_) (fun hb9 => ?_)
    · replace hb9 := cq_le.1.mp hb9
      refine e_step (pc' := 31) hK rfl rfl rfl ?_
      refine e_ret hK rfl rfl (by first | rfl | (simp only [mv_ret]; rw [if_pos]; exact Or.inr ⟨rfl, by omega⟩)) ?_
      refine ⟨?_, rfl, rfl⟩
      congr 1
      unfold px_g mv_bo
      unfold px_kd at *
      first | (rw [if_pos (by simp only [Bool.and_eq_true, decide_eq_true_eq]; rw [if_pos (by omega)] at *; omega)]; done) | (rw [if_neg (by simp only [Bool.and_eq_true, decide_eq_true_eq]; first | omega | (rw [if_pos (by omega)] at *; omega))])
    · replace hb9 := cq_le.2.mp hb9
      refine e_step (pc' := 13) hK rfl rfl rfl ?_
      refine e_step (pc' := 14) hK rfl rfl rfl ?_
      refine e_getI (ci := 1) (k := 6) (pc' := 17) hK rfl (by simp only [w1, w2, w3, w4, w5, w6, w7.1, w7.2, w8.1, w8.2, w9.1, w9.2, w10.1, w10.2, w11.1, w11.2, a1, a2]) rfl rfl (by decide) (by decide) rfl ?_
      try simp only [w1, w2, w3, w4, w5, w6, w7.1, w7.2, w8.1, w8.2, w9.1, w9.2, w10.1, w10.2, w11.1, w11.2, a1, a2]
      refine e_step (pc' := 18) hK rfl rfl rfl ?_
      refine e_step (pc' := 19) hK rfl rfl rfl ?_
      refine e_cRV2 (z := 8) (pc' := 22) hK rfl rfl (by simp only [w1, w2, w3, w4, w5, w6, w7.1, w7.2, w8.1, w8.2, w9.1, w9.2, w10.1, w10.2, w11.1, w11.2, a1, a2]; rfl) rfl (Nat.le_of_ble_eq_true rfl) (Nat.le_of_ble_eq_true rfl) (c_kindAt hl _ (by omega)) (by decide) rfl ?_
      try simp only [w1, w2, w3, w4, w5, w6, w7.1, w7.2, w8.1, w8.2, w9.1, w9.2, w10.1, w10.2, w11.1, w11.2, a1, a2]
      refine e_step (pc' := 23) hK rfl rfl rfl ?_
      refine e_icmp (t := 30) (pc' := 26) hK rfl (by first | omega | exact px_kd_i hI _) (by first | omega | exact px_kd_i hI _) (by decide) rfl (fun hb23 => ?_) (fun hb23 => ?_)
      · replace hb23 := cq_ne.1.mp hb23
        refine e_step (pc' := 31) hK rfl rfl rfl ?_
        refine e_ret hK rfl rfl (by first | rfl | (simp only [mv_ret]; rw [if_pos]; exact Or.inr ⟨rfl, by omega⟩)) ?_
        refine ⟨?_, rfl, rfl⟩
        congr 1
        unfold px_g mv_bo
        unfold px_kd at *
        first | (rw [if_pos (by simp only [Bool.and_eq_true, decide_eq_true_eq]; rw [if_pos (by omega)] at *; omega)]; done) | (rw [if_neg (by simp only [Bool.and_eq_true, decide_eq_true_eq]; first | omega | (rw [if_pos (by omega)] at *; omega))])
      · replace hb23 := cq_ne.2.mp hb23
        refine e_step (pc' := 27) hK rfl rfl rfl ?_
        refine e_goto (t := 31) hK rfl (by decide) ?_
        refine e_ret hK rfl rfl (by first | rfl | (simp only [mv_ret]; rw [if_pos]; exact Or.inr ⟨rfl, by omega⟩)) ?_
        refine ⟨?_, rfl, rfl⟩
        congr 1
        unfold px_g mv_bo
        unfold px_kd at *
        first | (rw [if_pos (by simp only [Bool.and_eq_true, decide_eq_true_eq]; rw [if_pos (by omega)] at *; omega)]; done) | (rw [if_neg (by simp only [Bool.and_eq_true, decide_eq_true_eq]; first | omega | (rw [if_pos (by omega)] at *; omega))])
end LN
