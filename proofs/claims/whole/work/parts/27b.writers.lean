/-! writers of State (written by wip/whole/m27.py) -/
section SW
variable {sc : Int × (Int → Int)} {c : mv_C} {h : mv_H}
set_option maxRecDepth 10000 in
theorem c_put1 {s : Int} {v : sv} {A : lg} (hw : StW h s) (hv : StV h v A) {l : Int} {x : xt} (hl : LnX h l x) (t : Int) (ht : mv_i t) : mv_Cl sc q_State_put [(2, s), (2, l), (0, t)] c (sH h s v) (fun r c' h' => r = (3, 0) ∧ c' = c ∧ ∃ w, h' = sH h s w ∧ StV h w (gput A x t)) := by
  have hw0 := hw
  have hv0 := hv
  obtain ⟨s1, s2, t0, f0, f1, f2, f3, f4, ⟨t1, l1⟩, ⟨t2, l2⟩, ⟨t3, l3⟩, ⟨t4, l4⟩, hl0⟩ := hw
  obtain ⟨hB, v1, v2, v3, v4, v5, v6⟩ := hv
  have b1 := hB.1
  have b2 := hB.2.1
  have htg := hl.tag
  have hp := hl.pos
  show mv_Ev sc 30 0 [(2, s), (2, l), (0, t)] [] c (sH h s v) _
  have hK : (mv_m 30).1 = kc_State_put := rfl
  refine e_step (pc' := 1) hK rfl rfl rfl ?_
  refine e_getI (ci := 2) (k := 5) (pc' := 4) hK rfl (by simp (disch := omega) only [sH_tg, sH_l1, sH_l2, sH_l3, sH_l4, sH_n5, sH_n6, sH_f0, sH_f1, sH_f2, sH_f3, sH_f4, sH_c1, sH_c2, sH_c3, sH_c4, t0, f0, f1, f2, f3, f4, t1, l1, t2, l2, t3, l3, t4, l4, v1, v2, htg]) rfl rfl (by decide) (by decide) rfl ?_
  try simp (disch := omega) only [sH_tg, sH_l1, sH_l2, sH_l3, sH_l4, sH_n5, sH_n6, sH_f0, sH_f1, sH_f2, sH_f3, sH_f4, sH_c1, sH_c2, sH_c3, sH_c4, t0, f0, f1, f2, f3, f4, t1, l1, t2, l2, t3, l3, t4, l4, v1, v2, htg]
  refine e_step (pc' := 6) hK rfl rfl rfl ?_
  refine e_icmp (t := 27) (pc' := 9) hK rfl (by omega) (by omega) (by decide) rfl (fun hb6 => ?_) (fun hb6 => ?_)
  · replace hb6 := cq_ge.1.mp hb6
    refine e_ret hK rfl rfl rfl ?_
    refine ⟨rfl, rfl, v, rfl, ?_⟩
    unfold gput
    rw [if_neg (by omega)]
    exact hv0
  · replace hb6 := cq_ge.2.mp hb6
    refine e_step (pc' := 10) hK rfl rfl rfl ?_
    refine e_if (t := 27) (pc' := 13) hK rfl (by omega) (by decide) rfl (fun hb10 => ?_) (fun hb10 => ?_)
    · replace hb10 := cq_lt.1.mp hb10
      refine e_ret hK rfl rfl rfl ?_
      refine ⟨rfl, rfl, v, rfl, ?_⟩
      unfold gput
      rw [if_neg (by omega)]
      exact hv0
    · replace hb10 := cq_lt.2.mp hb10
      refine e_step (pc' := 14) hK rfl rfl rfl ?_
      refine e_step (pc' := 15) hK rfl rfl rfl ?_
      refine e_getI (ci := 2) (k := 6) (pc' := 18) hK rfl (by simp (disch := omega) only [sH_tg, sH_l1, sH_l2, sH_l3, sH_l4, sH_n5, sH_n6, sH_f0, sH_f1, sH_f2, sH_f3, sH_f4, sH_c1, sH_c2, sH_c3, sH_c4, t0, f0, f1, f2, f3, f4, t1, l1, t2, l2, t3, l3, t4, l4, v1, v2, htg]) rfl rfl (by decide) (by decide) rfl ?_
      try simp (disch := omega) only [sH_tg, sH_l1, sH_l2, sH_l3, sH_l4, sH_n5, sH_n6, sH_f0, sH_f1, sH_f2, sH_f3, sH_f4, sH_c1, sH_c2, sH_c3, sH_c4, t0, f0, f1, f2, f3, f4, t1, l1, t2, l2, t3, l3, t4, l4, v1, v2, htg]
      refine e_icmp (t := 27) (pc' := 21) hK rfl (by omega) (by omega) (by decide) rfl (fun hb18 => ?_) (fun hb18 => ?_)
      · replace hb18 := cq_gt.1.mp hb18
        refine e_ret hK rfl rfl rfl ?_
        refine ⟨rfl, rfl, v, rfl, ?_⟩
        unfold gput
        rw [if_neg (by omega)]
        exact hv0
      · replace hb18 := cq_gt.2.mp hb18
        refine e_step (pc' := 22) hK rfl rfl rfl ?_
        refine e_step (pc' := 24) hK rfl rfl rfl ?_
        refine e_icmp (t := 28) (pc' := 27) hK rfl (by omega) (by omega) (by decide) rfl (fun hb24 => ?_) (fun hb24 => ?_)
        · replace hb24 := cq_lt.1.mp hb24
          refine e_step (pc' := 29) hK rfl rfl rfl ?_
          refine e_step (pc' := 30) hK rfl rfl rfl ?_
          refine e_getI (ci := 2) (k := 6) (pc' := 33) hK rfl (by simp (disch := omega) only [sH_tg, sH_l1, sH_l2, sH_l3, sH_l4, sH_n5, sH_n6, sH_f0, sH_f1, sH_f2, sH_f3, sH_f4, sH_c1, sH_c2, sH_c3, sH_c4, t0, f0, f1, f2, f3, f4, t1, l1, t2, l2, t3, l3, t4, l4, v1, v2, htg]) rfl rfl (by decide) (by decide) rfl ?_
          try simp (disch := omega) only [sH_tg, sH_l1, sH_l2, sH_l3, sH_l4, sH_n5, sH_n6, sH_f0, sH_f1, sH_f2, sH_f3, sH_f4, sH_c1, sH_c2, sH_c3, sH_c4, t0, f0, f1, f2, f3, f4, t1, l1, t2, l2, t3, l3, t4, l4, v1, v2, htg]
          refine e_icmp (t := 60) (pc' := 36) hK rfl (by omega) (by omega) (by decide) rfl (fun hb33 => ?_) (fun hb33 => ?_)
          · replace hb33 := cq_ne.1.mp hb33
            refine e_step (pc' := 61) hK rfl rfl rfl ?_
            refine e_getR (ci := 2) (k := 1) (pc' := 64) hK rfl (by simp (disch := omega) only [sH_tg, sH_l1, sH_l2, sH_l3, sH_l4, sH_n5, sH_n6, sH_f0, sH_f1, sH_f2, sH_f3, sH_f4, sH_c1, sH_c2, sH_c3, sH_c4, t0, f0, f1, f2, f3, f4, t1, l1, t2, l2, t3, l3, t4, l4, v1, v2, htg]) rfl rfl (by decide) (by decide) (by (try simp (disch := omega) only [sH_tg, sH_l1, sH_l2, sH_l3, sH_l4, sH_n5, sH_n6, sH_f0, sH_f1, sH_f2, sH_f3, sH_f4, sH_c1, sH_c2, sH_c3, sH_c4, t0, f0, f1, f2, f3, f4, t1, l1, t2, l2, t3, l3, t4, l4, v1, v2, htg]); omega) rfl ?_
            try simp (disch := omega) only [sH_tg, sH_l1, sH_l2, sH_l3, sH_l4, sH_n5, sH_n6, sH_f0, sH_f1, sH_f2, sH_f3, sH_f4, sH_c1, sH_c2, sH_c3, sH_c4, t0, f0, f1, f2, f3, f4, t1, l1, t2, l2, t3, l3, t4, l4, v1, v2, htg]
            refine e_step (pc' := 65) hK rfl rfl rfl ?_
            refine e_getI (ci := 2) (k := 5) (pc' := 68) hK rfl (by simp (disch := omega) only [sH_tg, sH_l1, sH_l2, sH_l3, sH_l4, sH_n5, sH_n6, sH_f0, sH_f1, sH_f2, sH_f3, sH_f4, sH_c1, sH_c2, sH_c3, sH_c4, t0, f0, f1, f2, f3, f4, t1, l1, t2, l2, t3, l3, t4, l4, v1, v2, htg]) rfl rfl (by decide) (by decide) rfl ?_
            try simp (disch := omega) only [sH_tg, sH_l1, sH_l2, sH_l3, sH_l4, sH_n5, sH_n6, sH_f0, sH_f1, sH_f2, sH_f3, sH_f4, sH_c1, sH_c2, sH_c3, sH_c4, t0, f0, f1, f2, f3, f4, t1, l1, t2, l2, t3, l3, t4, l4, v1, v2, htg]
            refine e_step (pc' := 69) hK rfl rfl rfl ?_
            refine e_aast (pc' := 70) hK rfl (by simp (disch := omega) only [sH_tg, sH_l1, sH_l2, sH_l3, sH_l4, sH_n5, sH_n6, sH_f0, sH_f1, sH_f2, sH_f3, sH_f4, sH_c1, sH_c2, sH_c3, sH_c4, t0, f0, f1, f2, f3, f4, t1, l1, t2, l2, t3, l3, t4, l4, v1, v2, htg]; decide) (by omega) (by (try simp (disch := omega) only [sH_tg, sH_l1, sH_l2, sH_l3, sH_l4, sH_n5, sH_n6, sH_f0, sH_f1, sH_f2, sH_f3, sH_f4, sH_c1, sH_c2, sH_c3, sH_c4, t0, f0, f1, f2, f3, f4, t1, l1, t2, l2, t3, l3, t4, l4, v1, v2, htg]); omega) rfl ?_
            simp only [sW_5, sW_6, sW_1, sW_2, sW_3, sW_4]
            refine e_step (pc' := 71) hK rfl rfl rfl ?_
            refine e_getR (ci := 2) (k := 2) (pc' := 74) hK rfl (by simp (disch := omega) only [sH_tg, sH_l1, sH_l2, sH_l3, sH_l4, sH_n5, sH_n6, sH_f0, sH_f1, sH_f2, sH_f3, sH_f4, sH_c1, sH_c2, sH_c3, sH_c4, t0, f0, f1, f2, f3, f4, t1, l1, t2, l2, t3, l3, t4, l4, v1, v2, htg]) rfl rfl (by decide) (by decide) (by (try simp (disch := omega) only [sH_tg, sH_l1, sH_l2, sH_l3, sH_l4, sH_n5, sH_n6, sH_f0, sH_f1, sH_f2, sH_f3, sH_f4, sH_c1, sH_c2, sH_c3, sH_c4, t0, f0, f1, f2, f3, f4, t1, l1, t2, l2, t3, l3, t4, l4, v1, v2, htg]); omega) rfl ?_
            try simp (disch := omega) only [sH_tg, sH_l1, sH_l2, sH_l3, sH_l4, sH_n5, sH_n6, sH_f0, sH_f1, sH_f2, sH_f3, sH_f4, sH_c1, sH_c2, sH_c3, sH_c4, t0, f0, f1, f2, f3, f4, t1, l1, t2, l2, t3, l3, t4, l4, v1, v2, htg]
            refine e_step (pc' := 75) hK rfl rfl rfl ?_
            refine e_getI (ci := 2) (k := 5) (pc' := 78) hK rfl (by simp (disch := omega) only [sH_tg, sH_l1, sH_l2, sH_l3, sH_l4, sH_n5, sH_n6, sH_f0, sH_f1, sH_f2, sH_f3, sH_f4, sH_c1, sH_c2, sH_c3, sH_c4, t0, f0, f1, f2, f3, f4, t1, l1, t2, l2, t3, l3, t4, l4, v1, v2, htg]) rfl rfl (by decide) (by decide) rfl ?_
            try simp (disch := omega) only [sH_tg, sH_l1, sH_l2, sH_l3, sH_l4, sH_n5, sH_n6, sH_f0, sH_f1, sH_f2, sH_f3, sH_f4, sH_c1, sH_c2, sH_c3, sH_c4, t0, f0, f1, f2, f3, f4, t1, l1, t2, l2, t3, l3, t4, l4, v1, v2, htg]
            refine e_step (pc' := 79) hK rfl rfl rfl ?_
            refine e_iast (pc' := 80) hK rfl (by simp (disch := omega) only [sH_tg, sH_l1, sH_l2, sH_l3, sH_l4, sH_n5, sH_n6, sH_f0, sH_f1, sH_f2, sH_f3, sH_f4, sH_c1, sH_c2, sH_c3, sH_c4, t0, f0, f1, f2, f3, f4, t1, l1, t2, l2, t3, l3, t4, l4, v1, v2, htg]) (by omega) (by (try simp (disch := omega) only [sH_tg, sH_l1, sH_l2, sH_l3, sH_l4, sH_n5, sH_n6, sH_f0, sH_f1, sH_f2, sH_f3, sH_f4, sH_c1, sH_c2, sH_c3, sH_c4, t0, f0, f1, f2, f3, f4, t1, l1, t2, l2, t3, l3, t4, l4, v1, v2, htg]); omega) rfl ?_
            simp only [sW_5, sW_6, sW_1, sW_2, sW_3, sW_4]
            refine e_step (pc' := 81) hK rfl rfl rfl ?_
            refine e_step (pc' := 82) hK rfl rfl rfl ?_
            refine e_getI (ci := 2) (k := 5) (pc' := 85) hK rfl (by simp (disch := omega) only [sH_tg, sH_l1, sH_l2, sH_l3, sH_l4, sH_n5, sH_n6, sH_f0, sH_f1, sH_f2, sH_f3, sH_f4, sH_c1, sH_c2, sH_c3, sH_c4, t0, f0, f1, f2, f3, f4, t1, l1, t2, l2, t3, l3, t4, l4, v1, v2, htg]) rfl rfl (by decide) (by decide) rfl ?_
            try simp (disch := omega) only [sH_tg, sH_l1, sH_l2, sH_l3, sH_l4, sH_n5, sH_n6, sH_f0, sH_f1, sH_f2, sH_f3, sH_f4, sH_c1, sH_c2, sH_c3, sH_c4, t0, f0, f1, f2, f3, f4, t1, l1, t2, l2, t3, l3, t4, l4, v1, v2, htg]
            refine e_step (pc' := 86) hK rfl rfl rfl ?_
            refine e_step (pc' := 87) hK rfl rfl rfl ?_
            refine e_put (ci := 2) (k := 5) (pc' := 90) hK rfl (by simp (disch := omega) only [sH_tg, sH_l1, sH_l2, sH_l3, sH_l4, sH_n5, sH_n6, sH_f0, sH_f1, sH_f2, sH_f3, sH_f4, sH_c1, sH_c2, sH_c3, sH_c4, t0, f0, f1, f2, f3, f4, t1, l1, t2, l2, t3, l3, t4, l4, v1, v2, htg]) rfl rfl (by decide) rfl rfl ?_
            simp only [sW_5, sW_6, sW_1, sW_2, sW_3, sW_4]
            refine e_ret hK rfl rfl rfl ?_
            exact ⟨rfl, rfl, _, rfl, hv0.put2 hl (by omega) (by omega) (by omega) (by first | exact v1 | rfl) (by first | exact v2 | rfl) (fun _ => rfl) (fun _ => rfl) rfl rfl⟩
          · replace hb33 := cq_ne.2.mp hb33
            refine e_step (pc' := 37) hK rfl rfl rfl ?_
            refine e_getR (ci := 2) (k := 3) (pc' := 40) hK rfl (by simp (disch := omega) only [sH_tg, sH_l1, sH_l2, sH_l3, sH_l4, sH_n5, sH_n6, sH_f0, sH_f1, sH_f2, sH_f3, sH_f4, sH_c1, sH_c2, sH_c3, sH_c4, t0, f0, f1, f2, f3, f4, t1, l1, t2, l2, t3, l3, t4, l4, v1, v2, htg]) rfl rfl (by decide) (by decide) (by (try simp (disch := omega) only [sH_tg, sH_l1, sH_l2, sH_l3, sH_l4, sH_n5, sH_n6, sH_f0, sH_f1, sH_f2, sH_f3, sH_f4, sH_c1, sH_c2, sH_c3, sH_c4, t0, f0, f1, f2, f3, f4, t1, l1, t2, l2, t3, l3, t4, l4, v1, v2, htg]); omega) rfl ?_
            try simp (disch := omega) only [sH_tg, sH_l1, sH_l2, sH_l3, sH_l4, sH_n5, sH_n6, sH_f0, sH_f1, sH_f2, sH_f3, sH_f4, sH_c1, sH_c2, sH_c3, sH_c4, t0, f0, f1, f2, f3, f4, t1, l1, t2, l2, t3, l3, t4, l4, v1, v2, htg]
            refine e_step (pc' := 41) hK rfl rfl rfl ?_
            refine e_step (pc' := 42) hK rfl rfl rfl ?_
            refine e_aast (pc' := 43) hK rfl (by simp (disch := omega) only [sH_tg, sH_l1, sH_l2, sH_l3, sH_l4, sH_n5, sH_n6, sH_f0, sH_f1, sH_f2, sH_f3, sH_f4, sH_c1, sH_c2, sH_c3, sH_c4, t0, f0, f1, f2, f3, f4, t1, l1, t2, l2, t3, l3, t4, l4, v1, v2, htg]; decide) (by omega) (by (try simp (disch := omega) only [sH_tg, sH_l1, sH_l2, sH_l3, sH_l4, sH_n5, sH_n6, sH_f0, sH_f1, sH_f2, sH_f3, sH_f4, sH_c1, sH_c2, sH_c3, sH_c4, t0, f0, f1, f2, f3, f4, t1, l1, t2, l2, t3, l3, t4, l4, v1, v2, htg]); omega) rfl ?_
            simp only [sW_5, sW_6, sW_1, sW_2, sW_3, sW_4]
            refine e_step (pc' := 44) hK rfl rfl rfl ?_
            refine e_getR (ci := 2) (k := 4) (pc' := 47) hK rfl (by simp (disch := omega) only [sH_tg, sH_l1, sH_l2, sH_l3, sH_l4, sH_n5, sH_n6, sH_f0, sH_f1, sH_f2, sH_f3, sH_f4, sH_c1, sH_c2, sH_c3, sH_c4, t0, f0, f1, f2, f3, f4, t1, l1, t2, l2, t3, l3, t4, l4, v1, v2, htg]) rfl rfl (by decide) (by decide) (by (try simp (disch := omega) only [sH_tg, sH_l1, sH_l2, sH_l3, sH_l4, sH_n5, sH_n6, sH_f0, sH_f1, sH_f2, sH_f3, sH_f4, sH_c1, sH_c2, sH_c3, sH_c4, t0, f0, f1, f2, f3, f4, t1, l1, t2, l2, t3, l3, t4, l4, v1, v2, htg]); omega) rfl ?_
            try simp (disch := omega) only [sH_tg, sH_l1, sH_l2, sH_l3, sH_l4, sH_n5, sH_n6, sH_f0, sH_f1, sH_f2, sH_f3, sH_f4, sH_c1, sH_c2, sH_c3, sH_c4, t0, f0, f1, f2, f3, f4, t1, l1, t2, l2, t3, l3, t4, l4, v1, v2, htg]
            refine e_step (pc' := 48) hK rfl rfl rfl ?_
            refine e_step (pc' := 49) hK rfl rfl rfl ?_
            refine e_iast (pc' := 50) hK rfl (by simp (disch := omega) only [sH_tg, sH_l1, sH_l2, sH_l3, sH_l4, sH_n5, sH_n6, sH_f0, sH_f1, sH_f2, sH_f3, sH_f4, sH_c1, sH_c2, sH_c3, sH_c4, t0, f0, f1, f2, f3, f4, t1, l1, t2, l2, t3, l3, t4, l4, v1, v2, htg]) (by omega) (by (try simp (disch := omega) only [sH_tg, sH_l1, sH_l2, sH_l3, sH_l4, sH_n5, sH_n6, sH_f0, sH_f1, sH_f2, sH_f3, sH_f4, sH_c1, sH_c2, sH_c3, sH_c4, t0, f0, f1, f2, f3, f4, t1, l1, t2, l2, t3, l3, t4, l4, v1, v2, htg]); omega) rfl ?_
            simp only [sW_5, sW_6, sW_1, sW_2, sW_3, sW_4]
            refine e_step (pc' := 51) hK rfl rfl rfl ?_
            refine e_step (pc' := 52) hK rfl rfl rfl ?_
            refine e_getI (ci := 2) (k := 6) (pc' := 55) hK rfl (by simp (disch := omega) only [sH_tg, sH_l1, sH_l2, sH_l3, sH_l4, sH_n5, sH_n6, sH_f0, sH_f1, sH_f2, sH_f3, sH_f4, sH_c1, sH_c2, sH_c3, sH_c4, t0, f0, f1, f2, f3, f4, t1, l1, t2, l2, t3, l3, t4, l4, v1, v2, htg]) rfl rfl (by decide) (by decide) rfl ?_
            try simp (disch := omega) only [sH_tg, sH_l1, sH_l2, sH_l3, sH_l4, sH_n5, sH_n6, sH_f0, sH_f1, sH_f2, sH_f3, sH_f4, sH_c1, sH_c2, sH_c3, sH_c4, t0, f0, f1, f2, f3, f4, t1, l1, t2, l2, t3, l3, t4, l4, v1, v2, htg]
            refine e_step (pc' := 56) hK rfl rfl rfl ?_
            refine e_step (pc' := 57) hK rfl rfl rfl ?_
            refine e_put (ci := 2) (k := 6) (pc' := 60) hK rfl (by simp (disch := omega) only [sH_tg, sH_l1, sH_l2, sH_l3, sH_l4, sH_n5, sH_n6, sH_f0, sH_f1, sH_f2, sH_f3, sH_f4, sH_c1, sH_c2, sH_c3, sH_c4, t0, f0, f1, f2, f3, f4, t1, l1, t2, l2, t3, l3, t4, l4, v1, v2, htg]) rfl rfl (by decide) rfl rfl ?_
            simp only [sW_5, sW_6, sW_1, sW_2, sW_3, sW_4]
            refine e_step (pc' := 61) hK rfl rfl rfl ?_
            refine e_getR (ci := 2) (k := 1) (pc' := 64) hK rfl (by simp (disch := omega) only [sH_tg, sH_l1, sH_l2, sH_l3, sH_l4, sH_n5, sH_n6, sH_f0, sH_f1, sH_f2, sH_f3, sH_f4, sH_c1, sH_c2, sH_c3, sH_c4, t0, f0, f1, f2, f3, f4, t1, l1, t2, l2, t3, l3, t4, l4, v1, v2, htg]) rfl rfl (by decide) (by decide) (by (try simp (disch := omega) only [sH_tg, sH_l1, sH_l2, sH_l3, sH_l4, sH_n5, sH_n6, sH_f0, sH_f1, sH_f2, sH_f3, sH_f4, sH_c1, sH_c2, sH_c3, sH_c4, t0, f0, f1, f2, f3, f4, t1, l1, t2, l2, t3, l3, t4, l4, v1, v2, htg]); omega) rfl ?_
            try simp (disch := omega) only [sH_tg, sH_l1, sH_l2, sH_l3, sH_l4, sH_n5, sH_n6, sH_f0, sH_f1, sH_f2, sH_f3, sH_f4, sH_c1, sH_c2, sH_c3, sH_c4, t0, f0, f1, f2, f3, f4, t1, l1, t2, l2, t3, l3, t4, l4, v1, v2, htg]
            refine e_step (pc' := 65) hK rfl rfl rfl ?_
            refine e_getI (ci := 2) (k := 5) (pc' := 68) hK rfl (by simp (disch := omega) only [sH_tg, sH_l1, sH_l2, sH_l3, sH_l4, sH_n5, sH_n6, sH_f0, sH_f1, sH_f2, sH_f3, sH_f4, sH_c1, sH_c2, sH_c3, sH_c4, t0, f0, f1, f2, f3, f4, t1, l1, t2, l2, t3, l3, t4, l4, v1, v2, htg]) rfl rfl (by decide) (by decide) rfl ?_
            try simp (disch := omega) only [sH_tg, sH_l1, sH_l2, sH_l3, sH_l4, sH_n5, sH_n6, sH_f0, sH_f1, sH_f2, sH_f3, sH_f4, sH_c1, sH_c2, sH_c3, sH_c4, t0, f0, f1, f2, f3, f4, t1, l1, t2, l2, t3, l3, t4, l4, v1, v2, htg]
            refine e_step (pc' := 69) hK rfl rfl rfl ?_
            refine e_aast (pc' := 70) hK rfl (by simp (disch := omega) only [sH_tg, sH_l1, sH_l2, sH_l3, sH_l4, sH_n5, sH_n6, sH_f0, sH_f1, sH_f2, sH_f3, sH_f4, sH_c1, sH_c2, sH_c3, sH_c4, t0, f0, f1, f2, f3, f4, t1, l1, t2, l2, t3, l3, t4, l4, v1, v2, htg]; decide) (by omega) (by (try simp (disch := omega) only [sH_tg, sH_l1, sH_l2, sH_l3, sH_l4, sH_n5, sH_n6, sH_f0, sH_f1, sH_f2, sH_f3, sH_f4, sH_c1, sH_c2, sH_c3, sH_c4, t0, f0, f1, f2, f3, f4, t1, l1, t2, l2, t3, l3, t4, l4, v1, v2, htg]); omega) rfl ?_
            simp only [sW_5, sW_6, sW_1, sW_2, sW_3, sW_4]
            refine e_step (pc' := 71) hK rfl rfl rfl ?_
            refine e_getR (ci := 2) (k := 2) (pc' := 74) hK rfl (by simp (disch := omega) only [sH_tg, sH_l1, sH_l2, sH_l3, sH_l4, sH_n5, sH_n6, sH_f0, sH_f1, sH_f2, sH_f3, sH_f4, sH_c1, sH_c2, sH_c3, sH_c4, t0, f0, f1, f2, f3, f4, t1, l1, t2, l2, t3, l3, t4, l4, v1, v2, htg]) rfl rfl (by decide) (by decide) (by (try simp (disch := omega) only [sH_tg, sH_l1, sH_l2, sH_l3, sH_l4, sH_n5, sH_n6, sH_f0, sH_f1, sH_f2, sH_f3, sH_f4, sH_c1, sH_c2, sH_c3, sH_c4, t0, f0, f1, f2, f3, f4, t1, l1, t2, l2, t3, l3, t4, l4, v1, v2, htg]); omega) rfl ?_
            try simp (disch := omega) only [sH_tg, sH_l1, sH_l2, sH_l3, sH_l4, sH_n5, sH_n6, sH_f0, sH_f1, sH_f2, sH_f3, sH_f4, sH_c1, sH_c2, sH_c3, sH_c4, t0, f0, f1, f2, f3, f4, t1, l1, t2, l2, t3, l3, t4, l4, v1, v2, htg]
            refine e_step (pc' := 75) hK rfl rfl rfl ?_
            refine e_getI (ci := 2) (k := 5) (pc' := 78) hK rfl (by simp (disch := omega) only [sH_tg, sH_l1, sH_l2, sH_l3, sH_l4, sH_n5, sH_n6, sH_f0, sH_f1, sH_f2, sH_f3, sH_f4, sH_c1, sH_c2, sH_c3, sH_c4, t0, f0, f1, f2, f3, f4, t1, l1, t2, l2, t3, l3, t4, l4, v1, v2, htg]) rfl rfl (by decide) (by decide) rfl ?_
            try simp (disch := omega) only [sH_tg, sH_l1, sH_l2, sH_l3, sH_l4, sH_n5, sH_n6, sH_f0, sH_f1, sH_f2, sH_f3, sH_f4, sH_c1, sH_c2, sH_c3, sH_c4, t0, f0, f1, f2, f3, f4, t1, l1, t2, l2, t3, l3, t4, l4, v1, v2, htg]
            refine e_step (pc' := 79) hK rfl rfl rfl ?_
            refine e_iast (pc' := 80) hK rfl (by simp (disch := omega) only [sH_tg, sH_l1, sH_l2, sH_l3, sH_l4, sH_n5, sH_n6, sH_f0, sH_f1, sH_f2, sH_f3, sH_f4, sH_c1, sH_c2, sH_c3, sH_c4, t0, f0, f1, f2, f3, f4, t1, l1, t2, l2, t3, l3, t4, l4, v1, v2, htg]) (by omega) (by (try simp (disch := omega) only [sH_tg, sH_l1, sH_l2, sH_l3, sH_l4, sH_n5, sH_n6, sH_f0, sH_f1, sH_f2, sH_f3, sH_f4, sH_c1, sH_c2, sH_c3, sH_c4, t0, f0, f1, f2, f3, f4, t1, l1, t2, l2, t3, l3, t4, l4, v1, v2, htg]); omega) rfl ?_
            simp only [sW_5, sW_6, sW_1, sW_2, sW_3, sW_4]
            refine e_step (pc' := 81) hK rfl rfl rfl ?_
            refine e_step (pc' := 82) hK rfl rfl rfl ?_
            refine e_getI (ci := 2) (k := 5) (pc' := 85) hK rfl (by simp (disch := omega) only [sH_tg, sH_l1, sH_l2, sH_l3, sH_l4, sH_n5, sH_n6, sH_f0, sH_f1, sH_f2, sH_f3, sH_f4, sH_c1, sH_c2, sH_c3, sH_c4, t0, f0, f1, f2, f3, f4, t1, l1, t2, l2, t3, l3, t4, l4, v1, v2, htg]) rfl rfl (by decide) (by decide) rfl ?_
            try simp (disch := omega) only [sH_tg, sH_l1, sH_l2, sH_l3, sH_l4, sH_n5, sH_n6, sH_f0, sH_f1, sH_f2, sH_f3, sH_f4, sH_c1, sH_c2, sH_c3, sH_c4, t0, f0, f1, f2, f3, f4, t1, l1, t2, l2, t3, l3, t4, l4, v1, v2, htg]
            refine e_step (pc' := 86) hK rfl rfl rfl ?_
            refine e_step (pc' := 87) hK rfl rfl rfl ?_
            refine e_put (ci := 2) (k := 5) (pc' := 90) hK rfl (by simp (disch := omega) only [sH_tg, sH_l1, sH_l2, sH_l3, sH_l4, sH_n5, sH_n6, sH_f0, sH_f1, sH_f2, sH_f3, sH_f4, sH_c1, sH_c2, sH_c3, sH_c4, t0, f0, f1, f2, f3, f4, t1, l1, t2, l2, t3, l3, t4, l4, v1, v2, htg]) rfl rfl (by decide) rfl rfl ?_
            simp only [sW_5, sW_6, sW_1, sW_2, sW_3, sW_4]
            refine e_ret hK rfl rfl rfl ?_
            exact ⟨rfl, rfl, _, rfl, hv0.put1 hl (by omega) (by omega) (by assumption) (by omega) rfl rfl (fun _ => rfl) (fun _ => rfl) (fun _ => rfl) (fun _ => rfl)⟩
        · replace hb24 := cq_lt.2.mp hb24
          refine e_ret hK rfl rfl rfl ?_
          refine ⟨rfl, rfl, v, rfl, ?_⟩
          unfold gput
          rw [if_neg (by omega)]
          exact hv0
theorem shp {g0 g : Int → Int} {t b : Int} (hw : ∀ k, g k = if t ≤ k ∧ k < b then g0 (k + 1) else g0 k) {j j' b' : Int} (hj : j = b) (hj' : j' = b + 1) (hb : b' = b + 1) (htb : t ≤ b) : ∀ k, mv_up g j (g j') k = if t ≤ k ∧ k < b' then g0 (k + 1) else g0 k := fun k => by
  subst hj; subst hj'; subst hb
  unfold mv_up
  by_cases hk : k = j
  · rw [if_pos hk, hw, if_neg (by omega), if_pos (by omega), hk]
  · rw [if_neg hk, hw]
    by_cases h2 : t ≤ k ∧ k < j
    · rw [if_pos h2, if_pos (by omega)]
    · rw [if_neg h2, if_neg (by omega)]
theorem shp_e {g0 g : Int → Int} {t b n : Int} (hw : ∀ k, g k = if t ≤ k ∧ k < b then g0 (k + 1) else g0 k) (hb : n ≤ b) (k : Int) (hk : k < n) : g k = if t ≤ k then g0 (k + 1) else g0 k := by
  rw [hw]
  by_cases q : t ≤ k
  · rw [if_pos (by omega), if_pos q]
  · rw [if_neg (by omega), if_neg q]
theorem upp1 {g0 g f : Int → Int} {n i : Int} (hw : ∀ k, 0 ≤ k → k < n → g k = if k < i then f k else g0 k) {i' x : Int} (hi : i' = i + 1) (hx : x = f i) : ∀ k, 0 ≤ k → k < n → mv_up g i x k = if k < i' then f k else g0 k := fun k h0 h1 => by
  subst hi
  unfold mv_up
  by_cases hk : k = i
  · rw [if_pos hk, if_pos (by omega), hk, hx]
  · rw [if_neg hk, hw k h0 h1]
    by_cases h2 : k < i
    · rw [if_pos h2, if_pos (by omega)]
    · rw [if_neg h2, if_neg (by omega)]
theorem upp2 {g0 g f : Int → Int} {n i : Int} (hw : ∀ k, 0 ≤ k → k < n → g k = if k < i then f k else g0 k) {i' : Int} (hi : i' = i + 1) (hx : f i = g0 i) : ∀ k, 0 ≤ k → k < n → g k = if k < i' then f k else g0 k := fun k h0 h1 => by
  subst hi
  rw [hw k h0 h1]
  by_cases hk : k = i
  · rw [if_neg (by omega), if_pos (by omega), hk, hx]
  · by_cases h2 : k < i
    · rw [if_pos h2, if_pos (by omega)]
    · rw [if_neg h2, if_neg (by omega)]
set_option maxRecDepth 10000 in
theorem c_dropT2 {s : Int} {v : sv} {A : lg} (hw : StW h s) (hv : StV h v A) (t : Int) (ht : 0 ≤ t) (ht2 : t < gT A) : ∀ (m : Nat) (i : Nat) (w : sv), i + m = gn A ∧ w.1 = gn A ∧ w.2.1 = (gT A : Int) - 1 ∧ w.2.2.1 = v.2.2.1 ∧ (∀ k : Int, 0 ≤ k → k < gn A → w.2.2.2.1 k = if k < i then (if t < v.2.2.2.1 k then v.2.2.2.1 k - 1 else v.2.2.2.1 k) else v.2.2.2.1 k) ∧ (∀ k : Int, k < (gT A : Int) - 1 → w.2.2.2.2.1 k = if t ≤ k then v.2.2.2.2.1 (k + 1) else v.2.2.2.2.1 k) ∧ (∀ k : Int, k < (gT A : Int) - 1 → w.2.2.2.2.2 k = if t ≤ k then v.2.2.2.2.2 (k + 1) else v.2.2.2.2.2 k) → mv_Ev sc 22 71 [(2, s), (0, t), (0, (i : Int))] [] c (sH h s w) (fun r c' h' => r = (3, 0) ∧ c' = c ∧ ∃ w, h' = sH h s w ∧ StV h w (gdropT A t)) := by
  intro m
  induction m with
  | zero =>
    intro i w hi
    have hw0 := hw
    have hv0 := hv
    obtain ⟨s1, s2, t0, f0, f1, f2, f3, f4, ⟨t1, l1⟩, ⟨t2, l2⟩, ⟨t3, l3⟩, ⟨t4, l4⟩, hl0⟩ := hw
    obtain ⟨hB, v1, v2, v3, v4, v5, v6⟩ := hv
    have b1 := hB.1
    have b2 := hB.2.1
    obtain ⟨hi, w1, w2, w3, w4, w5, w6⟩ := hi
    have hK : (mv_m 22).1 = kc_State_dropTemplate := rfl
    refine e_step (pc' := 72) hK rfl rfl rfl ?_
    refine e_step (pc' := 73) hK rfl rfl rfl ?_
    refine e_getI (ci := 2) (k := 5) (pc' := 76) hK rfl (by simp (disch := omega) only [sH_tg, sH_l1, sH_l2, sH_l3, sH_l4, sH_n5, sH_n6, sH_f0, sH_f1, sH_f2, sH_f3, sH_f4, sH_c1, sH_c2, sH_c3, sH_c4, t0, f0, f1, f2, f3, f4, t1, l1, t2, l2, t3, l3, t4, l4, w1, w2]) rfl rfl (by decide) (by decide) rfl ?_
    try simp (disch := omega) only [sH_tg, sH_l1, sH_l2, sH_l3, sH_l4, sH_n5, sH_n6, sH_f0, sH_f1, sH_f2, sH_f3, sH_f4, sH_c1, sH_c2, sH_c3, sH_c4, t0, f0, f1, f2, f3, f4, t1, l1, t2, l2, t3, l3, t4, l4, w1, w2]
    refine e_icmp (t := 105) (pc' := 79) hK rfl (by first | omega | (have q1 := w4 (i : Int) (by omega) (by omega); rw [if_neg (by omega)] at q1; have q2 := hB.2.2.1 (i : Int) (by omega) (by omega); have q3 := v4 (i : Int) (by omega) (by omega); omega)) (by first | omega | (have q1 := w4 (i : Int) (by omega) (by omega); rw [if_neg (by omega)] at q1; have q2 := hB.2.2.1 (i : Int) (by omega) (by omega); have q3 := v4 (i : Int) (by omega) (by omega); omega)) (by decide) rfl (fun hb76 => ?_) (fun hb76 => ?_)
    · replace hb76 := cq_ge.1.mp hb76
      refine e_ret hK rfl rfl rfl ?_
      exact ⟨rfl, rfl, w, rfl, hv0.dropT ht ht2 w1 w2 w3 (fun k h0 h1 => (w4 k h0 h1).trans (if_pos (by omega))) w5 w6⟩
    · replace hb76 := cq_ge.2.mp hb76
      exfalso; first | omega | exact absurd trivial (by assumption) | (first | omega | (have q1 := w4 (i : Int) (by omega) (by omega); rw [if_neg (by omega)] at q1; have q2 := hB.2.2.1 (i : Int) (by omega) (by omega); have q3 := v4 (i : Int) (by omega) (by omega); omega))
  | succ m ih =>
    intro i w hi
    have hw0 := hw
    have hv0 := hv
    obtain ⟨s1, s2, t0, f0, f1, f2, f3, f4, ⟨t1, l1⟩, ⟨t2, l2⟩, ⟨t3, l3⟩, ⟨t4, l4⟩, hl0⟩ := hw
    obtain ⟨hB, v1, v2, v3, v4, v5, v6⟩ := hv
    have b1 := hB.1
    have b2 := hB.2.1
    obtain ⟨hi, w1, w2, w3, w4, w5, w6⟩ := hi
    have hK : (mv_m 22).1 = kc_State_dropTemplate := rfl
    refine e_step (pc' := 72) hK rfl rfl rfl ?_
    refine e_step (pc' := 73) hK rfl rfl rfl ?_
    refine e_getI (ci := 2) (k := 5) (pc' := 76) hK rfl (by simp (disch := omega) only [sH_tg, sH_l1, sH_l2, sH_l3, sH_l4, sH_n5, sH_n6, sH_f0, sH_f1, sH_f2, sH_f3, sH_f4, sH_c1, sH_c2, sH_c3, sH_c4, t0, f0, f1, f2, f3, f4, t1, l1, t2, l2, t3, l3, t4, l4, w1, w2]) rfl rfl (by decide) (by decide) rfl ?_
    try simp (disch := omega) only [sH_tg, sH_l1, sH_l2, sH_l3, sH_l4, sH_n5, sH_n6, sH_f0, sH_f1, sH_f2, sH_f3, sH_f4, sH_c1, sH_c2, sH_c3, sH_c4, t0, f0, f1, f2, f3, f4, t1, l1, t2, l2, t3, l3, t4, l4, w1, w2]
    refine e_icmp (t := 105) (pc' := 79) hK rfl (by first | omega | (have q1 := w4 (i : Int) (by omega) (by omega); rw [if_neg (by omega)] at q1; have q2 := hB.2.2.1 (i : Int) (by omega) (by omega); have q3 := v4 (i : Int) (by omega) (by omega); omega)) (by first | omega | (have q1 := w4 (i : Int) (by omega) (by omega); rw [if_neg (by omega)] at q1; have q2 := hB.2.2.1 (i : Int) (by omega) (by omega); have q3 := v4 (i : Int) (by omega) (by omega); omega)) (by decide) rfl (fun hb76 => ?_) (fun hb76 => ?_)
    · replace hb76 := cq_ge.1.mp hb76
      exfalso; first | omega | exact absurd trivial (by assumption) | (first | omega | (have q1 := w4 (i : Int) (by omega) (by omega); rw [if_neg (by omega)] at q1; have q2 := hB.2.2.1 (i : Int) (by omega) (by omega); have q3 := v4 (i : Int) (by omega) (by omega); omega))
    · replace hb76 := cq_ge.2.mp hb76
      refine e_step (pc' := 80) hK rfl rfl rfl ?_
      refine e_getR (ci := 2) (k := 2) (pc' := 83) hK rfl (by simp (disch := omega) only [sH_tg, sH_l1, sH_l2, sH_l3, sH_l4, sH_n5, sH_n6, sH_f0, sH_f1, sH_f2, sH_f3, sH_f4, sH_c1, sH_c2, sH_c3, sH_c4, t0, f0, f1, f2, f3, f4, t1, l1, t2, l2, t3, l3, t4, l4, w1, w2]) rfl rfl (by decide) (by decide) (by (try simp (disch := omega) only [sH_tg, sH_l1, sH_l2, sH_l3, sH_l4, sH_n5, sH_n6, sH_f0, sH_f1, sH_f2, sH_f3, sH_f4, sH_c1, sH_c2, sH_c3, sH_c4, t0, f0, f1, f2, f3, f4, t1, l1, t2, l2, t3, l3, t4, l4, w1, w2]); first | omega | (have q1 := w4 (i : Int) (by omega) (by omega); rw [if_neg (by omega)] at q1; have q2 := hB.2.2.1 (i : Int) (by omega) (by omega); have q3 := v4 (i : Int) (by omega) (by omega); omega)) rfl ?_
      try simp (disch := omega) only [sH_tg, sH_l1, sH_l2, sH_l3, sH_l4, sH_n5, sH_n6, sH_f0, sH_f1, sH_f2, sH_f3, sH_f4, sH_c1, sH_c2, sH_c3, sH_c4, t0, f0, f1, f2, f3, f4, t1, l1, t2, l2, t3, l3, t4, l4, w1, w2]
      refine e_step (pc' := 84) hK rfl rfl rfl ?_
      refine e_iald (pc' := 85) hK rfl (by simp (disch := omega) only [sH_tg, sH_l1, sH_l2, sH_l3, sH_l4, sH_n5, sH_n6, sH_f0, sH_f1, sH_f2, sH_f3, sH_f4, sH_c1, sH_c2, sH_c3, sH_c4, t0, f0, f1, f2, f3, f4, t1, l1, t2, l2, t3, l3, t4, l4, w1, w2]) (by first | omega | (have q1 := w4 (i : Int) (by omega) (by omega); rw [if_neg (by omega)] at q1; have q2 := hB.2.2.1 (i : Int) (by omega) (by omega); have q3 := v4 (i : Int) (by omega) (by omega); omega)) (by (try simp (disch := omega) only [sH_tg, sH_l1, sH_l2, sH_l3, sH_l4, sH_n5, sH_n6, sH_f0, sH_f1, sH_f2, sH_f3, sH_f4, sH_c1, sH_c2, sH_c3, sH_c4, t0, f0, f1, f2, f3, f4, t1, l1, t2, l2, t3, l3, t4, l4, w1, w2]); first | omega | (have q1 := w4 (i : Int) (by omega) (by omega); rw [if_neg (by omega)] at q1; have q2 := hB.2.2.1 (i : Int) (by omega) (by omega); have q3 := v4 (i : Int) (by omega) (by omega); omega)) rfl ?_
      try simp (disch := omega) only [sH_tg, sH_l1, sH_l2, sH_l3, sH_l4, sH_n5, sH_n6, sH_f0, sH_f1, sH_f2, sH_f3, sH_f4, sH_c1, sH_c2, sH_c3, sH_c4, t0, f0, f1, f2, f3, f4, t1, l1, t2, l2, t3, l3, t4, l4, w1, w2]
      refine e_step (pc' := 86) hK rfl rfl rfl ?_
      refine e_icmp (t := 99) (pc' := 89) hK rfl (by first | omega | (have q1 := w4 (i : Int) (by omega) (by omega); rw [if_neg (by omega)] at q1; have q2 := hB.2.2.1 (i : Int) (by omega) (by omega); have q3 := v4 (i : Int) (by omega) (by omega); omega)) (by first | omega | (have q1 := w4 (i : Int) (by omega) (by omega); rw [if_neg (by omega)] at q1; have q2 := hB.2.2.1 (i : Int) (by omega) (by omega); have q3 := v4 (i : Int) (by omega) (by omega); omega)) (by decide) rfl (fun hb86 => ?_) (fun hb86 => ?_)
      · replace hb86 := cq_le.1.mp hb86
        refine e_step (pc' := 102) hK rfl rfl rfl ?_
        try simp only [List.set_cons_zero, List.set_cons_succ]
        refine e_goto (t := 71) hK rfl (by decide) ?_
        have q1 := w4 (i : Int) (by omega) (by omega)
        rw [if_neg (by omega)] at q1
        refine ih (i + 1) _ ⟨by omega, by first | exact w1 | rfl, by first | exact w2 | rfl, w3, upp2 (f := (fun k => if t < v.2.2.2.1 k then v.2.2.2.1 k - 1 else v.2.2.2.1 k)) w4 rfl (by show (if _ then _ else _) = _; rw [if_neg (by omega)]), w5, w6⟩
      · replace hb86 := cq_le.2.mp hb86
        refine e_step (pc' := 90) hK rfl rfl rfl ?_
        refine e_getR (ci := 2) (k := 2) (pc' := 93) hK rfl (by simp (disch := omega) only [sH_tg, sH_l1, sH_l2, sH_l3, sH_l4, sH_n5, sH_n6, sH_f0, sH_f1, sH_f2, sH_f3, sH_f4, sH_c1, sH_c2, sH_c3, sH_c4, t0, f0, f1, f2, f3, f4, t1, l1, t2, l2, t3, l3, t4, l4, w1, w2]) rfl rfl (by decide) (by decide) (by (try simp (disch := omega) only [sH_tg, sH_l1, sH_l2, sH_l3, sH_l4, sH_n5, sH_n6, sH_f0, sH_f1, sH_f2, sH_f3, sH_f4, sH_c1, sH_c2, sH_c3, sH_c4, t0, f0, f1, f2, f3, f4, t1, l1, t2, l2, t3, l3, t4, l4, w1, w2]); first | omega | (have q1 := w4 (i : Int) (by omega) (by omega); rw [if_neg (by omega)] at q1; have q2 := hB.2.2.1 (i : Int) (by omega) (by omega); have q3 := v4 (i : Int) (by omega) (by omega); omega)) rfl ?_
        try simp (disch := omega) only [sH_tg, sH_l1, sH_l2, sH_l3, sH_l4, sH_n5, sH_n6, sH_f0, sH_f1, sH_f2, sH_f3, sH_f4, sH_c1, sH_c2, sH_c3, sH_c4, t0, f0, f1, f2, f3, f4, t1, l1, t2, l2, t3, l3, t4, l4, w1, w2]
        refine e_step (pc' := 94) hK rfl rfl rfl ?_
        refine e_step (pc' := 95) hK rfl rfl rfl ?_
        refine e_iald (pc' := 96) hK rfl (by simp (disch := omega) only [sH_tg, sH_l1, sH_l2, sH_l3, sH_l4, sH_n5, sH_n6, sH_f0, sH_f1, sH_f2, sH_f3, sH_f4, sH_c1, sH_c2, sH_c3, sH_c4, t0, f0, f1, f2, f3, f4, t1, l1, t2, l2, t3, l3, t4, l4, w1, w2]) (by first | omega | (have q1 := w4 (i : Int) (by omega) (by omega); rw [if_neg (by omega)] at q1; have q2 := hB.2.2.1 (i : Int) (by omega) (by omega); have q3 := v4 (i : Int) (by omega) (by omega); omega)) (by (try simp (disch := omega) only [sH_tg, sH_l1, sH_l2, sH_l3, sH_l4, sH_n5, sH_n6, sH_f0, sH_f1, sH_f2, sH_f3, sH_f4, sH_c1, sH_c2, sH_c3, sH_c4, t0, f0, f1, f2, f3, f4, t1, l1, t2, l2, t3, l3, t4, l4, w1, w2]); first | omega | (have q1 := w4 (i : Int) (by omega) (by omega); rw [if_neg (by omega)] at q1; have q2 := hB.2.2.1 (i : Int) (by omega) (by omega); have q3 := v4 (i : Int) (by omega) (by omega); omega)) rfl ?_
        try simp (disch := omega) only [sH_tg, sH_l1, sH_l2, sH_l3, sH_l4, sH_n5, sH_n6, sH_f0, sH_f1, sH_f2, sH_f3, sH_f4, sH_c1, sH_c2, sH_c3, sH_c4, t0, f0, f1, f2, f3, f4, t1, l1, t2, l2, t3, l3, t4, l4, w1, w2]
        refine e_step (pc' := 97) hK rfl rfl rfl ?_
        refine e_step (pc' := 98) hK rfl rfl rfl ?_
        refine e_iast (pc' := 99) hK rfl (by simp (disch := omega) only [sH_tg, sH_l1, sH_l2, sH_l3, sH_l4, sH_n5, sH_n6, sH_f0, sH_f1, sH_f2, sH_f3, sH_f4, sH_c1, sH_c2, sH_c3, sH_c4, t0, f0, f1, f2, f3, f4, t1, l1, t2, l2, t3, l3, t4, l4, w1, w2]) (by first | omega | (have q1 := w4 (i : Int) (by omega) (by omega); rw [if_neg (by omega)] at q1; have q2 := hB.2.2.1 (i : Int) (by omega) (by omega); have q3 := v4 (i : Int) (by omega) (by omega); omega)) (by (try simp (disch := omega) only [sH_tg, sH_l1, sH_l2, sH_l3, sH_l4, sH_n5, sH_n6, sH_f0, sH_f1, sH_f2, sH_f3, sH_f4, sH_c1, sH_c2, sH_c3, sH_c4, t0, f0, f1, f2, f3, f4, t1, l1, t2, l2, t3, l3, t4, l4, w1, w2]); first | omega | (have q1 := w4 (i : Int) (by omega) (by omega); rw [if_neg (by omega)] at q1; have q2 := hB.2.2.1 (i : Int) (by omega) (by omega); have q3 := v4 (i : Int) (by omega) (by omega); omega)) rfl ?_
        simp only [sW_5, sW_6, sW_1, sW_2, sW_3, sW_4]
        refine e_step (pc' := 102) hK rfl rfl rfl ?_
        try simp only [List.set_cons_zero, List.set_cons_succ]
        refine e_goto (t := 71) hK rfl (by decide) ?_
        have q1 := w4 (i : Int) (by omega) (by omega)
        rw [if_neg (by omega)] at q1
        refine ih (i + 1) _ ⟨by omega, by first | exact w1 | rfl, by first | exact w2 | rfl, w3, upp1 (f := (fun k => if t < v.2.2.2.1 k then v.2.2.2.1 k - 1 else v.2.2.2.1 k)) w4 rfl (by show _ = if _ then _ else _; rw [if_pos (by omega)]; omega), w5, w6⟩
set_option maxRecDepth 10000 in
theorem c_dropT1 {s : Int} {v : sv} {A : lg} (hw : StW h s) (hv : StV h v A) (t : Int) (ht : 0 ≤ t) (ht2 : t < gT A) : ∀ (m : Nat) (i : Nat) (w : sv), t + 1 + i + m = gT A ∧ w.1 = gn A ∧ w.2.1 = (gT A : Int) ∧ w.2.2.1 = v.2.2.1 ∧ w.2.2.2.1 = v.2.2.2.1 ∧ (∀ k : Int, w.2.2.2.2.1 k = if t ≤ k ∧ k < t + i then v.2.2.2.2.1 (k + 1) else v.2.2.2.2.1 k) ∧ (∀ k : Int, w.2.2.2.2.2 k = if t ≤ k ∧ k < t + i then v.2.2.2.2.2 (k + 1) else v.2.2.2.2.2 k) → mv_Ev sc 22 17 [(2, s), (0, t), (0, t + 1 + (i : Int))] [] c (sH h s w) (fun r c' h' => r = (3, 0) ∧ c' = c ∧ ∃ w, h' = sH h s w ∧ StV h w (gdropT A t)) := by
  intro m
  induction m with
  | zero =>
    intro i w hi
    have hw0 := hw
    have hv0 := hv
    obtain ⟨s1, s2, t0, f0, f1, f2, f3, f4, ⟨t1, l1⟩, ⟨t2, l2⟩, ⟨t3, l3⟩, ⟨t4, l4⟩, hl0⟩ := hw
    obtain ⟨hB, v1, v2, v3, v4, v5, v6⟩ := hv
    have b1 := hB.1
    have b2 := hB.2.1
    obtain ⟨hi, w1, w2, w3, w4, w5, w6⟩ := hi
    have wp : ∀ k : Int, 0 ≤ k → t + i ≤ k → k < gT A → 0 ≤ w.2.2.2.2.1 k := fun k h0 h1 h2 => by rw [w5, if_neg (by omega)]; exact (v5 k h0 h2).pos
    have wt : ∀ k : Int, 0 ≤ k → t + i ≤ k → k < gT A → (h (w.2.2.2.2.1 k)).1 = 1 := fun k h0 h1 h2 => by rw [w5, if_neg (by omega)]; exact (v5 k h0 h2).tag
    have hK : (mv_m 22).1 = kc_State_dropTemplate := rfl
    refine e_step (pc' := 18) hK rfl rfl rfl ?_
    refine e_step (pc' := 19) hK rfl rfl rfl ?_
    refine e_getI (ci := 2) (k := 6) (pc' := 22) hK rfl (by simp (disch := omega) only [sH_tg, sH_l1, sH_l2, sH_l3, sH_l4, sH_n5, sH_n6, sH_f0, sH_f1, sH_f2, sH_f3, sH_f4, sH_c1, sH_c2, sH_c3, sH_c4, t0, f0, f1, f2, f3, f4, t1, l1, t2, l2, t3, l3, t4, l4, w1, w2, wt]) rfl rfl (by decide) (by decide) rfl ?_
    try simp (disch := omega) only [sH_tg, sH_l1, sH_l2, sH_l3, sH_l4, sH_n5, sH_n6, sH_f0, sH_f1, sH_f2, sH_f3, sH_f4, sH_c1, sH_c2, sH_c3, sH_c4, t0, f0, f1, f2, f3, f4, t1, l1, t2, l2, t3, l3, t4, l4, w1, w2, wt]
    refine e_icmp (t := 59) (pc' := 25) hK rfl (by first | omega | exact wp _ (by omega) (by omega) (by omega)) (by first | omega | exact wp _ (by omega) (by omega) (by omega)) (by decide) rfl (fun hb22 => ?_) (fun hb22 => ?_)
    · replace hb22 := cq_ge.1.mp hb22
      refine e_step (pc' := 60) hK rfl rfl rfl ?_
      refine e_step (pc' := 61) hK rfl rfl rfl ?_
      refine e_getI (ci := 2) (k := 6) (pc' := 64) hK rfl (by simp (disch := omega) only [sH_tg, sH_l1, sH_l2, sH_l3, sH_l4, sH_n5, sH_n6, sH_f0, sH_f1, sH_f2, sH_f3, sH_f4, sH_c1, sH_c2, sH_c3, sH_c4, t0, f0, f1, f2, f3, f4, t1, l1, t2, l2, t3, l3, t4, l4, w1, w2, wt]) rfl rfl (by decide) (by decide) rfl ?_
      try simp (disch := omega) only [sH_tg, sH_l1, sH_l2, sH_l3, sH_l4, sH_n5, sH_n6, sH_f0, sH_f1, sH_f2, sH_f3, sH_f4, sH_c1, sH_c2, sH_c3, sH_c4, t0, f0, f1, f2, f3, f4, t1, l1, t2, l2, t3, l3, t4, l4, w1, w2, wt]
      refine e_step (pc' := 65) hK rfl rfl rfl ?_
      refine e_step (pc' := 66) hK rfl rfl rfl ?_
      refine e_put (ci := 2) (k := 6) (pc' := 69) hK rfl (by simp (disch := omega) only [sH_tg, sH_l1, sH_l2, sH_l3, sH_l4, sH_n5, sH_n6, sH_f0, sH_f1, sH_f2, sH_f3, sH_f4, sH_c1, sH_c2, sH_c3, sH_c4, t0, f0, f1, f2, f3, f4, t1, l1, t2, l2, t3, l3, t4, l4, w1, w2, wt]) rfl rfl (by decide) rfl rfl ?_
      simp only [sW_5, sW_6, sW_1, sW_2, sW_3, sW_4]
      refine e_step (pc' := 70) hK rfl rfl rfl ?_
      refine e_step (pc' := 71) hK rfl rfl rfl ?_
      try simp only [List.set_cons_zero, List.set_cons_succ]
      refine c_dropT2 hw0 hv0 t ht ht2 (gn A) 0 _ ⟨by omega, by first | exact w1 | rfl, by first | rfl | omega, w3, fun k h0 h1 => ?_, fun k h0 => ?_, fun k h0 => ?_⟩
      · rw [if_neg (by omega)]; exact congrFun w4 k
      · refine (w5 k).trans ?_
        by_cases hk : t ≤ k
        · rw [if_pos hk, if_pos (by omega)]
        · rw [if_neg hk, if_neg (by omega)]
      · refine (w6 k).trans ?_
        by_cases hk : t ≤ k
        · rw [if_pos hk, if_pos (by omega)]
        · rw [if_neg hk, if_neg (by omega)]
    · replace hb22 := cq_ge.2.mp hb22
      exfalso; first | omega | exact absurd trivial (by assumption) | (first | omega | exact wp _ (by omega) (by omega) (by omega))
  | succ m ih =>
    intro i w hi
    have hw0 := hw
    have hv0 := hv
    obtain ⟨s1, s2, t0, f0, f1, f2, f3, f4, ⟨t1, l1⟩, ⟨t2, l2⟩, ⟨t3, l3⟩, ⟨t4, l4⟩, hl0⟩ := hw
    obtain ⟨hB, v1, v2, v3, v4, v5, v6⟩ := hv
    have b1 := hB.1
    have b2 := hB.2.1
    obtain ⟨hi, w1, w2, w3, w4, w5, w6⟩ := hi
    have wp : ∀ k : Int, 0 ≤ k → t + i ≤ k → k < gT A → 0 ≤ w.2.2.2.2.1 k := fun k h0 h1 h2 => by rw [w5, if_neg (by omega)]; exact (v5 k h0 h2).pos
    have wt : ∀ k : Int, 0 ≤ k → t + i ≤ k → k < gT A → (h (w.2.2.2.2.1 k)).1 = 1 := fun k h0 h1 h2 => by rw [w5, if_neg (by omega)]; exact (v5 k h0 h2).tag
    have hK : (mv_m 22).1 = kc_State_dropTemplate := rfl
    refine e_step (pc' := 18) hK rfl rfl rfl ?_
    refine e_step (pc' := 19) hK rfl rfl rfl ?_
    refine e_getI (ci := 2) (k := 6) (pc' := 22) hK rfl (by simp (disch := omega) only [sH_tg, sH_l1, sH_l2, sH_l3, sH_l4, sH_n5, sH_n6, sH_f0, sH_f1, sH_f2, sH_f3, sH_f4, sH_c1, sH_c2, sH_c3, sH_c4, t0, f0, f1, f2, f3, f4, t1, l1, t2, l2, t3, l3, t4, l4, w1, w2, wt]) rfl rfl (by decide) (by decide) rfl ?_
    try simp (disch := omega) only [sH_tg, sH_l1, sH_l2, sH_l3, sH_l4, sH_n5, sH_n6, sH_f0, sH_f1, sH_f2, sH_f3, sH_f4, sH_c1, sH_c2, sH_c3, sH_c4, t0, f0, f1, f2, f3, f4, t1, l1, t2, l2, t3, l3, t4, l4, w1, w2, wt]
    refine e_icmp (t := 59) (pc' := 25) hK rfl (by first | omega | exact wp _ (by omega) (by omega) (by omega)) (by first | omega | exact wp _ (by omega) (by omega) (by omega)) (by decide) rfl (fun hb22 => ?_) (fun hb22 => ?_)
    · replace hb22 := cq_ge.1.mp hb22
      exfalso; first | omega | exact absurd trivial (by assumption) | (first | omega | exact wp _ (by omega) (by omega) (by omega))
    · replace hb22 := cq_ge.2.mp hb22
      refine e_step (pc' := 26) hK rfl rfl rfl ?_
      refine e_getR (ci := 2) (k := 3) (pc' := 29) hK rfl (by simp (disch := omega) only [sH_tg, sH_l1, sH_l2, sH_l3, sH_l4, sH_n5, sH_n6, sH_f0, sH_f1, sH_f2, sH_f3, sH_f4, sH_c1, sH_c2, sH_c3, sH_c4, t0, f0, f1, f2, f3, f4, t1, l1, t2, l2, t3, l3, t4, l4, w1, w2, wt]) rfl rfl (by decide) (by decide) (by (try simp (disch := omega) only [sH_tg, sH_l1, sH_l2, sH_l3, sH_l4, sH_n5, sH_n6, sH_f0, sH_f1, sH_f2, sH_f3, sH_f4, sH_c1, sH_c2, sH_c3, sH_c4, t0, f0, f1, f2, f3, f4, t1, l1, t2, l2, t3, l3, t4, l4, w1, w2, wt]); first | omega | exact wp _ (by omega) (by omega) (by omega)) rfl ?_
      try simp (disch := omega) only [sH_tg, sH_l1, sH_l2, sH_l3, sH_l4, sH_n5, sH_n6, sH_f0, sH_f1, sH_f2, sH_f3, sH_f4, sH_c1, sH_c2, sH_c3, sH_c4, t0, f0, f1, f2, f3, f4, t1, l1, t2, l2, t3, l3, t4, l4, w1, w2, wt]
      refine e_step (pc' := 30) hK rfl rfl rfl ?_
      refine e_step (pc' := 31) hK rfl rfl rfl ?_
      refine e_step (pc' := 32) hK rfl rfl rfl ?_
      refine e_step (pc' := 33) hK rfl rfl rfl ?_
      refine e_getR (ci := 2) (k := 3) (pc' := 36) hK rfl (by simp (disch := omega) only [sH_tg, sH_l1, sH_l2, sH_l3, sH_l4, sH_n5, sH_n6, sH_f0, sH_f1, sH_f2, sH_f3, sH_f4, sH_c1, sH_c2, sH_c3, sH_c4, t0, f0, f1, f2, f3, f4, t1, l1, t2, l2, t3, l3, t4, l4, w1, w2, wt]) rfl rfl (by decide) (by decide) (by (try simp (disch := omega) only [sH_tg, sH_l1, sH_l2, sH_l3, sH_l4, sH_n5, sH_n6, sH_f0, sH_f1, sH_f2, sH_f3, sH_f4, sH_c1, sH_c2, sH_c3, sH_c4, t0, f0, f1, f2, f3, f4, t1, l1, t2, l2, t3, l3, t4, l4, w1, w2, wt]); first | omega | exact wp _ (by omega) (by omega) (by omega)) rfl ?_
      try simp (disch := omega) only [sH_tg, sH_l1, sH_l2, sH_l3, sH_l4, sH_n5, sH_n6, sH_f0, sH_f1, sH_f2, sH_f3, sH_f4, sH_c1, sH_c2, sH_c3, sH_c4, t0, f0, f1, f2, f3, f4, t1, l1, t2, l2, t3, l3, t4, l4, w1, w2, wt]
      refine e_step (pc' := 37) hK rfl rfl rfl ?_
      refine e_aald (pc' := 38) hK rfl (by simp (disch := omega) only [sH_tg, sH_l1, sH_l2, sH_l3, sH_l4, sH_n5, sH_n6, sH_f0, sH_f1, sH_f2, sH_f3, sH_f4, sH_c1, sH_c2, sH_c3, sH_c4, t0, f0, f1, f2, f3, f4, t1, l1, t2, l2, t3, l3, t4, l4, w1, w2, wt]; decide) (by first | omega | exact wp _ (by omega) (by omega) (by omega)) (by (try simp (disch := omega) only [sH_tg, sH_l1, sH_l2, sH_l3, sH_l4, sH_n5, sH_n6, sH_f0, sH_f1, sH_f2, sH_f3, sH_f4, sH_c1, sH_c2, sH_c3, sH_c4, t0, f0, f1, f2, f3, f4, t1, l1, t2, l2, t3, l3, t4, l4, w1, w2, wt]); first | omega | exact wp _ (by omega) (by omega) (by omega)) (by (try simp (disch := omega) only [sH_tg, sH_l1, sH_l2, sH_l3, sH_l4, sH_n5, sH_n6, sH_f0, sH_f1, sH_f2, sH_f3, sH_f4, sH_c1, sH_c2, sH_c3, sH_c4, t0, f0, f1, f2, f3, f4, t1, l1, t2, l2, t3, l3, t4, l4, w1, w2, wt]); first | omega | exact wp _ (by omega) (by omega) (by omega)) rfl ?_
      try simp (disch := omega) only [sH_tg, sH_l1, sH_l2, sH_l3, sH_l4, sH_n5, sH_n6, sH_f0, sH_f1, sH_f2, sH_f3, sH_f4, sH_c1, sH_c2, sH_c3, sH_c4, t0, f0, f1, f2, f3, f4, t1, l1, t2, l2, t3, l3, t4, l4, w1, w2, wt]
      refine e_aast (pc' := 39) hK rfl (by simp (disch := omega) only [sH_tg, sH_l1, sH_l2, sH_l3, sH_l4, sH_n5, sH_n6, sH_f0, sH_f1, sH_f2, sH_f3, sH_f4, sH_c1, sH_c2, sH_c3, sH_c4, t0, f0, f1, f2, f3, f4, t1, l1, t2, l2, t3, l3, t4, l4, w1, w2, wt]; decide) (by first | omega | exact wp _ (by omega) (by omega) (by omega)) (by (try simp (disch := omega) only [sH_tg, sH_l1, sH_l2, sH_l3, sH_l4, sH_n5, sH_n6, sH_f0, sH_f1, sH_f2, sH_f3, sH_f4, sH_c1, sH_c2, sH_c3, sH_c4, t0, f0, f1, f2, f3, f4, t1, l1, t2, l2, t3, l3, t4, l4, w1, w2, wt]); first | omega | exact wp _ (by omega) (by omega) (by omega)) rfl ?_
      simp only [sW_5, sW_6, sW_1, sW_2, sW_3, sW_4]
      refine e_step (pc' := 40) hK rfl rfl rfl ?_
      refine e_getR (ci := 2) (k := 4) (pc' := 43) hK rfl (by simp (disch := omega) only [sH_tg, sH_l1, sH_l2, sH_l3, sH_l4, sH_n5, sH_n6, sH_f0, sH_f1, sH_f2, sH_f3, sH_f4, sH_c1, sH_c2, sH_c3, sH_c4, t0, f0, f1, f2, f3, f4, t1, l1, t2, l2, t3, l3, t4, l4, w1, w2, wt]) rfl rfl (by decide) (by decide) (by (try simp (disch := omega) only [sH_tg, sH_l1, sH_l2, sH_l3, sH_l4, sH_n5, sH_n6, sH_f0, sH_f1, sH_f2, sH_f3, sH_f4, sH_c1, sH_c2, sH_c3, sH_c4, t0, f0, f1, f2, f3, f4, t1, l1, t2, l2, t3, l3, t4, l4, w1, w2, wt]); first | omega | exact wp _ (by omega) (by omega) (by omega)) rfl ?_
      try simp (disch := omega) only [sH_tg, sH_l1, sH_l2, sH_l3, sH_l4, sH_n5, sH_n6, sH_f0, sH_f1, sH_f2, sH_f3, sH_f4, sH_c1, sH_c2, sH_c3, sH_c4, t0, f0, f1, f2, f3, f4, t1, l1, t2, l2, t3, l3, t4, l4, w1, w2, wt]
      refine e_step (pc' := 44) hK rfl rfl rfl ?_
      refine e_step (pc' := 45) hK rfl rfl rfl ?_
      refine e_step (pc' := 46) hK rfl rfl rfl ?_
      refine e_step (pc' := 47) hK rfl rfl rfl ?_
      refine e_getR (ci := 2) (k := 4) (pc' := 50) hK rfl (by simp (disch := omega) only [sH_tg, sH_l1, sH_l2, sH_l3, sH_l4, sH_n5, sH_n6, sH_f0, sH_f1, sH_f2, sH_f3, sH_f4, sH_c1, sH_c2, sH_c3, sH_c4, t0, f0, f1, f2, f3, f4, t1, l1, t2, l2, t3, l3, t4, l4, w1, w2, wt]) rfl rfl (by decide) (by decide) (by (try simp (disch := omega) only [sH_tg, sH_l1, sH_l2, sH_l3, sH_l4, sH_n5, sH_n6, sH_f0, sH_f1, sH_f2, sH_f3, sH_f4, sH_c1, sH_c2, sH_c3, sH_c4, t0, f0, f1, f2, f3, f4, t1, l1, t2, l2, t3, l3, t4, l4, w1, w2, wt]); first | omega | exact wp _ (by omega) (by omega) (by omega)) rfl ?_
      try simp (disch := omega) only [sH_tg, sH_l1, sH_l2, sH_l3, sH_l4, sH_n5, sH_n6, sH_f0, sH_f1, sH_f2, sH_f3, sH_f4, sH_c1, sH_c2, sH_c3, sH_c4, t0, f0, f1, f2, f3, f4, t1, l1, t2, l2, t3, l3, t4, l4, w1, w2, wt]
      refine e_step (pc' := 51) hK rfl rfl rfl ?_
      refine e_iald (pc' := 52) hK rfl (by simp (disch := omega) only [sH_tg, sH_l1, sH_l2, sH_l3, sH_l4, sH_n5, sH_n6, sH_f0, sH_f1, sH_f2, sH_f3, sH_f4, sH_c1, sH_c2, sH_c3, sH_c4, t0, f0, f1, f2, f3, f4, t1, l1, t2, l2, t3, l3, t4, l4, w1, w2, wt]) (by first | omega | exact wp _ (by omega) (by omega) (by omega)) (by (try simp (disch := omega) only [sH_tg, sH_l1, sH_l2, sH_l3, sH_l4, sH_n5, sH_n6, sH_f0, sH_f1, sH_f2, sH_f3, sH_f4, sH_c1, sH_c2, sH_c3, sH_c4, t0, f0, f1, f2, f3, f4, t1, l1, t2, l2, t3, l3, t4, l4, w1, w2, wt]); first | omega | exact wp _ (by omega) (by omega) (by omega)) rfl ?_
      try simp (disch := omega) only [sH_tg, sH_l1, sH_l2, sH_l3, sH_l4, sH_n5, sH_n6, sH_f0, sH_f1, sH_f2, sH_f3, sH_f4, sH_c1, sH_c2, sH_c3, sH_c4, t0, f0, f1, f2, f3, f4, t1, l1, t2, l2, t3, l3, t4, l4, w1, w2, wt]
      refine e_iast (pc' := 53) hK rfl (by simp (disch := omega) only [sH_tg, sH_l1, sH_l2, sH_l3, sH_l4, sH_n5, sH_n6, sH_f0, sH_f1, sH_f2, sH_f3, sH_f4, sH_c1, sH_c2, sH_c3, sH_c4, t0, f0, f1, f2, f3, f4, t1, l1, t2, l2, t3, l3, t4, l4, w1, w2, wt]) (by first | omega | exact wp _ (by omega) (by omega) (by omega)) (by (try simp (disch := omega) only [sH_tg, sH_l1, sH_l2, sH_l3, sH_l4, sH_n5, sH_n6, sH_f0, sH_f1, sH_f2, sH_f3, sH_f4, sH_c1, sH_c2, sH_c3, sH_c4, t0, f0, f1, f2, f3, f4, t1, l1, t2, l2, t3, l3, t4, l4, w1, w2, wt]); first | omega | exact wp _ (by omega) (by omega) (by omega)) rfl ?_
      simp only [sW_5, sW_6, sW_1, sW_2, sW_3, sW_4]
      refine e_step (pc' := 56) hK rfl rfl rfl ?_
      try simp only [List.set_cons_zero, List.set_cons_succ]
      refine e_goto (t := 17) hK rfl (by decide) ?_
      rw [show t + 1 + (i : Int) + 1 = t + 1 + ((i + 1 : Nat) : Int) from by omega]
      exact ih (i + 1) _ ⟨by omega, by first | exact w1 | rfl, by first | exact w2 | rfl, w3, w4, shp w5 (by omega) (by omega) (by omega) (by omega), shp w6 (by omega) (by omega) (by omega) (by omega)⟩
set_option maxRecDepth 10000 in
theorem c_dropT0 {s : Int} {v : sv} {A : lg} (hw : StW h s) (hv : StV h v A) (t : Int) (ht : mv_i t) : mv_Cl sc q_State_dropTemplate [(2, s), (0, t)] c (sH h s v) (fun r c' h' => r = (3, 0) ∧ c' = c ∧ ∃ w, h' = sH h s w ∧ StV h w (gdropT A t)) := by
  have hw0 := hw
  have hv0 := hv
  obtain ⟨s1, s2, t0, f0, f1, f2, f3, f4, ⟨t1, l1⟩, ⟨t2, l2⟩, ⟨t3, l3⟩, ⟨t4, l4⟩, hl0⟩ := hw
  obtain ⟨hB, v1, v2, v3, v4, v5, v6⟩ := hv
  have b1 := hB.1
  have b2 := hB.2.1
  show mv_Ev sc 22 0 [(2, s), (0, t), (5, 0)] [] c (sH h s v) _
  have hK : (mv_m 22).1 = kc_State_dropTemplate := rfl
  refine e_step (pc' := 1) hK rfl rfl rfl ?_
  refine e_if (t := 12) (pc' := 4) hK rfl (by omega) (by decide) rfl (fun hb1 => ?_) (fun hb1 => ?_)
  · replace hb1 := cq_lt.1.mp hb1
    refine e_ret hK rfl rfl rfl ?_
    refine ⟨rfl, rfl, v, rfl, ?_⟩
    unfold gdropT
    rw [if_neg (by omega)]
    exact hv0
  · replace hb1 := cq_lt.2.mp hb1
    refine e_step (pc' := 5) hK rfl rfl rfl ?_
    refine e_step (pc' := 6) hK rfl rfl rfl ?_
    refine e_getI (ci := 2) (k := 6) (pc' := 9) hK rfl (by simp (disch := omega) only [sH_tg, sH_l1, sH_l2, sH_l3, sH_l4, sH_n5, sH_n6, sH_f0, sH_f1, sH_f2, sH_f3, sH_f4, sH_c1, sH_c2, sH_c3, sH_c4, t0, f0, f1, f2, f3, f4, t1, l1, t2, l2, t3, l3, t4, l4, v1, v2]) rfl rfl (by decide) (by decide) rfl ?_
    try simp (disch := omega) only [sH_tg, sH_l1, sH_l2, sH_l3, sH_l4, sH_n5, sH_n6, sH_f0, sH_f1, sH_f2, sH_f3, sH_f4, sH_c1, sH_c2, sH_c3, sH_c4, t0, f0, f1, f2, f3, f4, t1, l1, t2, l2, t3, l3, t4, l4, v1, v2]
    refine e_icmp (t := 13) (pc' := 12) hK rfl (by omega) (by omega) (by decide) rfl (fun hb9 => ?_) (fun hb9 => ?_)
    · replace hb9 := cq_lt.1.mp hb9
      refine e_step (pc' := 14) hK rfl rfl rfl ?_
      refine e_step (pc' := 15) hK rfl rfl rfl ?_
      refine e_step (pc' := 16) hK rfl rfl rfl ?_
      refine e_step (pc' := 17) hK rfl rfl rfl ?_
      try simp only [List.set_cons_zero, List.set_cons_succ]
      have q1 := c_dropT1 (sc := sc) (c := c) hw0 hv0 t (by omega) (by omega) (gT A - 1 - t.toNat) 0 v ⟨by omega, v1, v2, rfl, rfl, fun k => by rw [if_neg (by omega)], fun k => by rw [if_neg (by omega)]⟩
      simp only [Int.ofNat_zero, Int.natCast_zero, Int.add_zero] at q1
      exact q1
    · replace hb9 := cq_lt.2.mp hb9
      refine e_ret hK rfl rfl rfl ?_
      refine ⟨rfl, rfl, v, rfl, ?_⟩
      unfold gdropT
      rw [if_neg (by omega)]
      exact hv0
set_option maxRecDepth 10000 in
theorem c_dropL1 {s : Int} {v : sv} {A : lg} (hw : StW h s) (hv : StV h v A) (i : Int) (hi0 : 0 ≤ i) (hi1 : i < gn A) : ∀ (m : Nat) (j : Nat) (w : sv), i + 1 + j + m = gn A ∧ w.1 = gn A ∧ w.2.1 = (gT A : Int) ∧ (∀ k : Int, w.2.2.1 k = if i ≤ k ∧ k < i + j then v.2.2.1 (k + 1) else v.2.2.1 k) ∧ (∀ k : Int, w.2.2.2.1 k = if i ≤ k ∧ k < i + j then v.2.2.2.1 (k + 1) else v.2.2.2.1 k) ∧ w.2.2.2.2 = v.2.2.2.2 → mv_Ev sc 31 20 [(2, s), (0, i), (0, gP A i), (0, i + 1 + (j : Int))] [] c (sH h s w) (fun r c' h' => r = (3, 0) ∧ c' = c ∧ ∃ w, h' = sH h s w ∧ StV h w (gdrop A i)) := by
  intro m
  induction m with
  | zero =>
    intro j w hi
    have hw0 := hw
    have hv0 := hv
    obtain ⟨s1, s2, t0, f0, f1, f2, f3, f4, ⟨t1, l1⟩, ⟨t2, l2⟩, ⟨t3, l3⟩, ⟨t4, l4⟩, hl0⟩ := hw
    obtain ⟨hB, v1, v2, v3, v4, v5, v6⟩ := hv
    have b1 := hB.1
    have b2 := hB.2.1
    obtain ⟨hi, w1, w2, w3, w4, w5⟩ := hi
    have wp : ∀ k : Int, 0 ≤ k → i + j ≤ k → k < gn A → 0 ≤ w.2.2.1 k := fun k h0 h1 h2 => by rw [w3, if_neg (by omega)]; exact (v3 k h0 h2).pos
    have wt : ∀ k : Int, 0 ≤ k → i + j ≤ k → k < gn A → (h (w.2.2.1 k)).1 = 1 := fun k h0 h1 h2 => by rw [w3, if_neg (by omega)]; exact (v3 k h0 h2).tag
    have hK : (mv_m 31).1 = kc_State_dropLine := rfl
    refine e_step (pc' := 21) hK rfl rfl rfl ?_
    refine e_step (pc' := 22) hK rfl rfl rfl ?_
    refine e_getI (ci := 2) (k := 5) (pc' := 25) hK rfl (by simp (disch := omega) only [sH_tg, sH_l1, sH_l2, sH_l3, sH_l4, sH_n5, sH_n6, sH_f0, sH_f1, sH_f2, sH_f3, sH_f4, sH_c1, sH_c2, sH_c3, sH_c4, t0, f0, f1, f2, f3, f4, t1, l1, t2, l2, t3, l3, t4, l4, w1, w2, wt]) rfl rfl (by decide) (by decide) rfl ?_
    try simp (disch := omega) only [sH_tg, sH_l1, sH_l2, sH_l3, sH_l4, sH_n5, sH_n6, sH_f0, sH_f1, sH_f2, sH_f3, sH_f4, sH_c1, sH_c2, sH_c3, sH_c4, t0, f0, f1, f2, f3, f4, t1, l1, t2, l2, t3, l3, t4, l4, w1, w2, wt]
    refine e_icmp (t := 62) (pc' := 28) hK rfl (by first | omega | exact wp _ (by omega) (by omega) (by omega) | (have q0 := hv1.1.1; have q1 := lf_b (q := (fun k => decide (gP (gdrop1 A i) k = gP A i))) (gn (gdrop1 A i)); omega) | (have q1 := hB.2.2.1 i hi0 hi1; omega)) (by first | omega | exact wp _ (by omega) (by omega) (by omega) | (have q0 := hv1.1.1; have q1 := lf_b (q := (fun k => decide (gP (gdrop1 A i) k = gP A i))) (gn (gdrop1 A i)); omega) | (have q1 := hB.2.2.1 i hi0 hi1; omega)) (by decide) rfl (fun hb25 => ?_) (fun hb25 => ?_)
    · replace hb25 := cq_ge.1.mp hb25
      refine e_step (pc' := 63) hK rfl rfl rfl ?_
      refine e_step (pc' := 64) hK rfl rfl rfl ?_
      refine e_getI (ci := 2) (k := 5) (pc' := 67) hK rfl (by simp (disch := omega) only [sH_tg, sH_l1, sH_l2, sH_l3, sH_l4, sH_n5, sH_n6, sH_f0, sH_f1, sH_f2, sH_f3, sH_f4, sH_c1, sH_c2, sH_c3, sH_c4, t0, f0, f1, f2, f3, f4, t1, l1, t2, l2, t3, l3, t4, l4, w1, w2, wt]) rfl rfl (by decide) (by decide) rfl ?_
      try simp (disch := omega) only [sH_tg, sH_l1, sH_l2, sH_l3, sH_l4, sH_n5, sH_n6, sH_f0, sH_f1, sH_f2, sH_f3, sH_f4, sH_c1, sH_c2, sH_c3, sH_c4, t0, f0, f1, f2, f3, f4, t1, l1, t2, l2, t3, l3, t4, l4, w1, w2, wt]
      refine e_step (pc' := 68) hK rfl rfl rfl ?_
      refine e_step (pc' := 69) hK rfl rfl rfl ?_
      refine e_put (ci := 2) (k := 5) (pc' := 72) hK rfl (by simp (disch := omega) only [sH_tg, sH_l1, sH_l2, sH_l3, sH_l4, sH_n5, sH_n6, sH_f0, sH_f1, sH_f2, sH_f3, sH_f4, sH_c1, sH_c2, sH_c3, sH_c4, t0, f0, f1, f2, f3, f4, t1, l1, t2, l2, t3, l3, t4, l4, w1, w2, wt]) rfl rfl (by decide) rfl rfl ?_
      simp only [sW_5, sW_6, sW_1, sW_2, sW_3, sW_4]
      have hv1 : StV h ((gn A : Int) - 1, w.2) (gdrop1 A i) := StV.drop1 (w := ((gn A : Int) - 1, w.2)) hv0 hi0 hi1 rfl w2 (shp_e w3 (by omega)) (shp_e w4 (by omega)) w5
      refine e_step (pc' := 73) hK rfl rfl rfl ?_
      refine e_step (pc' := 74) hK rfl rfl rfl ?_
      refine e_cRV2 (z := 28) (pc' := 77) hK rfl rfl (by simp (disch := omega) only [sH_tg, sH_l1, sH_l2, sH_l3, sH_l4, sH_n5, sH_n6, sH_f0, sH_f1, sH_f2, sH_f3, sH_f4, sH_c1, sH_c2, sH_c3, sH_c4, t0, f0, f1, f2, f3, f4, t1, l1, t2, l2, t3, l3, t4, l4, w1, w2, wt]; rfl) rfl (Nat.le_of_ble_eq_true rfl) (Nat.le_of_ble_eq_true rfl) ((c_firstOf (StA.mk hw0 hv1) (gP A i) (by have q1 := hB.2.2.1 i hi0 hi1; omega))) (by decide) rfl ?_
      try simp (disch := omega) only [sH_tg, sH_l1, sH_l2, sH_l3, sH_l4, sH_n5, sH_n6, sH_f0, sH_f1, sH_f2, sH_f3, sH_f4, sH_c1, sH_c2, sH_c3, sH_c4, t0, f0, f1, f2, f3, f4, t1, l1, t2, l2, t3, l3, t4, l4, w1, w2, wt]
      refine e_step (pc' := 80) hK rfl rfl rfl ?_
      refine e_icmp (t := 88) (pc' := 83) hK rfl (by first | omega | exact wp _ (by omega) (by omega) (by omega) | (have q0 := hv1.1.1; have q1 := lf_b (q := (fun k => decide (gP (gdrop1 A i) k = gP A i))) (gn (gdrop1 A i)); omega) | (have q1 := hB.2.2.1 i hi0 hi1; omega)) (by first | omega | exact wp _ (by omega) (by omega) (by omega) | (have q0 := hv1.1.1; have q1 := lf_b (q := (fun k => decide (gP (gdrop1 A i) k = gP A i))) (gn (gdrop1 A i)); omega) | (have q1 := hB.2.2.1 i hi0 hi1; omega)) (by decide) rfl (fun hb80 => ?_) (fun hb80 => ?_)
      · replace hb80 := cq_ne.1.mp hb80
        refine e_ret hK rfl rfl rfl ?_
        refine ⟨rfl, rfl, _, rfl, ?_⟩
        unfold gdrop
        rw [if_pos ⟨hi0, hi1⟩, if_neg hb80]
        exact hv1
      · replace hb80 := cq_ne.2.mp hb80
        refine e_step (pc' := 84) hK rfl rfl rfl ?_
        refine e_step (pc' := 85) hK rfl rfl rfl ?_
        refine e_cQV2 (z := 22) hK rfl rfl (by simp (disch := omega) only [sH_tg, sH_l1, sH_l2, sH_l3, sH_l4, sH_n5, sH_n6, sH_f0, sH_f1, sH_f2, sH_f3, sH_f4, sH_c1, sH_c2, sH_c3, sH_c4, t0, f0, f1, f2, f3, f4, t1, l1, t2, l2, t3, l3, t4, l4, w1, w2, wt]; rfl) rfl (Nat.le_of_ble_eq_true rfl) (Nat.le_of_ble_eq_true rfl) (c_dropT0 hw0 hv1 (gP A i) (by have q1 := hB.2.2.1 i hi0 hi1; omega)) ?_
        rintro _ _ _ ⟨rfl, rfl, w6, rfl, hv2⟩
        refine ⟨by decide, ?_⟩
        rw [if_pos rfl]
        show mv_Ev _ _ 88 _ _ _ _ _
        refine e_ret hK rfl rfl rfl ?_
        refine ⟨rfl, rfl, _, rfl, ?_⟩
        unfold gdrop
        rw [if_pos ⟨hi0, hi1⟩, if_pos hb80]
        exact hv2
    · replace hb25 := cq_ge.2.mp hb25
      exfalso; first | omega | exact absurd trivial (by assumption) | (first | omega | exact wp _ (by omega) (by omega) (by omega) | (have q0 := hv1.1.1; have q1 := lf_b (q := (fun k => decide (gP (gdrop1 A i) k = gP A i))) (gn (gdrop1 A i)); omega) | (have q1 := hB.2.2.1 i hi0 hi1; omega))
  | succ m ih =>
    intro j w hi
    have hw0 := hw
    have hv0 := hv
    obtain ⟨s1, s2, t0, f0, f1, f2, f3, f4, ⟨t1, l1⟩, ⟨t2, l2⟩, ⟨t3, l3⟩, ⟨t4, l4⟩, hl0⟩ := hw
    obtain ⟨hB, v1, v2, v3, v4, v5, v6⟩ := hv
    have b1 := hB.1
    have b2 := hB.2.1
    obtain ⟨hi, w1, w2, w3, w4, w5⟩ := hi
    have wp : ∀ k : Int, 0 ≤ k → i + j ≤ k → k < gn A → 0 ≤ w.2.2.1 k := fun k h0 h1 h2 => by rw [w3, if_neg (by omega)]; exact (v3 k h0 h2).pos
    have wt : ∀ k : Int, 0 ≤ k → i + j ≤ k → k < gn A → (h (w.2.2.1 k)).1 = 1 := fun k h0 h1 h2 => by rw [w3, if_neg (by omega)]; exact (v3 k h0 h2).tag
    have hK : (mv_m 31).1 = kc_State_dropLine := rfl
    refine e_step (pc' := 21) hK rfl rfl rfl ?_
    refine e_step (pc' := 22) hK rfl rfl rfl ?_
    refine e_getI (ci := 2) (k := 5) (pc' := 25) hK rfl (by simp (disch := omega) only [sH_tg, sH_l1, sH_l2, sH_l3, sH_l4, sH_n5, sH_n6, sH_f0, sH_f1, sH_f2, sH_f3, sH_f4, sH_c1, sH_c2, sH_c3, sH_c4, t0, f0, f1, f2, f3, f4, t1, l1, t2, l2, t3, l3, t4, l4, w1, w2, wt]) rfl rfl (by decide) (by decide) rfl ?_
    try simp (disch := omega) only [sH_tg, sH_l1, sH_l2, sH_l3, sH_l4, sH_n5, sH_n6, sH_f0, sH_f1, sH_f2, sH_f3, sH_f4, sH_c1, sH_c2, sH_c3, sH_c4, t0, f0, f1, f2, f3, f4, t1, l1, t2, l2, t3, l3, t4, l4, w1, w2, wt]
    refine e_icmp (t := 62) (pc' := 28) hK rfl (by first | omega | exact wp _ (by omega) (by omega) (by omega) | (have q0 := hv1.1.1; have q1 := lf_b (q := (fun k => decide (gP (gdrop1 A i) k = gP A i))) (gn (gdrop1 A i)); omega) | (have q1 := hB.2.2.1 i hi0 hi1; omega)) (by first | omega | exact wp _ (by omega) (by omega) (by omega) | (have q0 := hv1.1.1; have q1 := lf_b (q := (fun k => decide (gP (gdrop1 A i) k = gP A i))) (gn (gdrop1 A i)); omega) | (have q1 := hB.2.2.1 i hi0 hi1; omega)) (by decide) rfl (fun hb25 => ?_) (fun hb25 => ?_)
    · replace hb25 := cq_ge.1.mp hb25
      exfalso; first | omega | exact absurd trivial (by assumption) | (first | omega | exact wp _ (by omega) (by omega) (by omega) | (have q0 := hv1.1.1; have q1 := lf_b (q := (fun k => decide (gP (gdrop1 A i) k = gP A i))) (gn (gdrop1 A i)); omega) | (have q1 := hB.2.2.1 i hi0 hi1; omega))
    · replace hb25 := cq_ge.2.mp hb25
      refine e_step (pc' := 29) hK rfl rfl rfl ?_
      refine e_getR (ci := 2) (k := 1) (pc' := 32) hK rfl (by simp (disch := omega) only [sH_tg, sH_l1, sH_l2, sH_l3, sH_l4, sH_n5, sH_n6, sH_f0, sH_f1, sH_f2, sH_f3, sH_f4, sH_c1, sH_c2, sH_c3, sH_c4, t0, f0, f1, f2, f3, f4, t1, l1, t2, l2, t3, l3, t4, l4, w1, w2, wt]) rfl rfl (by decide) (by decide) (by (try simp (disch := omega) only [sH_tg, sH_l1, sH_l2, sH_l3, sH_l4, sH_n5, sH_n6, sH_f0, sH_f1, sH_f2, sH_f3, sH_f4, sH_c1, sH_c2, sH_c3, sH_c4, t0, f0, f1, f2, f3, f4, t1, l1, t2, l2, t3, l3, t4, l4, w1, w2, wt]); first | omega | exact wp _ (by omega) (by omega) (by omega) | (have q0 := hv1.1.1; have q1 := lf_b (q := (fun k => decide (gP (gdrop1 A i) k = gP A i))) (gn (gdrop1 A i)); omega) | (have q1 := hB.2.2.1 i hi0 hi1; omega)) rfl ?_
      try simp (disch := omega) only [sH_tg, sH_l1, sH_l2, sH_l3, sH_l4, sH_n5, sH_n6, sH_f0, sH_f1, sH_f2, sH_f3, sH_f4, sH_c1, sH_c2, sH_c3, sH_c4, t0, f0, f1, f2, f3, f4, t1, l1, t2, l2, t3, l3, t4, l4, w1, w2, wt]
      refine e_step (pc' := 33) hK rfl rfl rfl ?_
      refine e_step (pc' := 34) hK rfl rfl rfl ?_
      refine e_step (pc' := 35) hK rfl rfl rfl ?_
      refine e_step (pc' := 36) hK rfl rfl rfl ?_
      refine e_getR (ci := 2) (k := 1) (pc' := 39) hK rfl (by simp (disch := omega) only [sH_tg, sH_l1, sH_l2, sH_l3, sH_l4, sH_n5, sH_n6, sH_f0, sH_f1, sH_f2, sH_f3, sH_f4, sH_c1, sH_c2, sH_c3, sH_c4, t0, f0, f1, f2, f3, f4, t1, l1, t2, l2, t3, l3, t4, l4, w1, w2, wt]) rfl rfl (by decide) (by decide) (by (try simp (disch := omega) only [sH_tg, sH_l1, sH_l2, sH_l3, sH_l4, sH_n5, sH_n6, sH_f0, sH_f1, sH_f2, sH_f3, sH_f4, sH_c1, sH_c2, sH_c3, sH_c4, t0, f0, f1, f2, f3, f4, t1, l1, t2, l2, t3, l3, t4, l4, w1, w2, wt]); first | omega | exact wp _ (by omega) (by omega) (by omega) | (have q0 := hv1.1.1; have q1 := lf_b (q := (fun k => decide (gP (gdrop1 A i) k = gP A i))) (gn (gdrop1 A i)); omega) | (have q1 := hB.2.2.1 i hi0 hi1; omega)) rfl ?_
      try simp (disch := omega) only [sH_tg, sH_l1, sH_l2, sH_l3, sH_l4, sH_n5, sH_n6, sH_f0, sH_f1, sH_f2, sH_f3, sH_f4, sH_c1, sH_c2, sH_c3, sH_c4, t0, f0, f1, f2, f3, f4, t1, l1, t2, l2, t3, l3, t4, l4, w1, w2, wt]
      refine e_step (pc' := 40) hK rfl rfl rfl ?_
      refine e_aald (pc' := 41) hK rfl (by simp (disch := omega) only [sH_tg, sH_l1, sH_l2, sH_l3, sH_l4, sH_n5, sH_n6, sH_f0, sH_f1, sH_f2, sH_f3, sH_f4, sH_c1, sH_c2, sH_c3, sH_c4, t0, f0, f1, f2, f3, f4, t1, l1, t2, l2, t3, l3, t4, l4, w1, w2, wt]; decide) (by first | omega | exact wp _ (by omega) (by omega) (by omega) | (have q0 := hv1.1.1; have q1 := lf_b (q := (fun k => decide (gP (gdrop1 A i) k = gP A i))) (gn (gdrop1 A i)); omega) | (have q1 := hB.2.2.1 i hi0 hi1; omega)) (by (try simp (disch := omega) only [sH_tg, sH_l1, sH_l2, sH_l3, sH_l4, sH_n5, sH_n6, sH_f0, sH_f1, sH_f2, sH_f3, sH_f4, sH_c1, sH_c2, sH_c3, sH_c4, t0, f0, f1, f2, f3, f4, t1, l1, t2, l2, t3, l3, t4, l4, w1, w2, wt]); first | omega | exact wp _ (by omega) (by omega) (by omega) | (have q0 := hv1.1.1; have q1 := lf_b (q := (fun k => decide (gP (gdrop1 A i) k = gP A i))) (gn (gdrop1 A i)); omega) | (have q1 := hB.2.2.1 i hi0 hi1; omega)) (by (try simp (disch := omega) only [sH_tg, sH_l1, sH_l2, sH_l3, sH_l4, sH_n5, sH_n6, sH_f0, sH_f1, sH_f2, sH_f3, sH_f4, sH_c1, sH_c2, sH_c3, sH_c4, t0, f0, f1, f2, f3, f4, t1, l1, t2, l2, t3, l3, t4, l4, w1, w2, wt]); first | omega | exact wp _ (by omega) (by omega) (by omega) | (have q0 := hv1.1.1; have q1 := lf_b (q := (fun k => decide (gP (gdrop1 A i) k = gP A i))) (gn (gdrop1 A i)); omega) | (have q1 := hB.2.2.1 i hi0 hi1; omega)) rfl ?_
      try simp (disch := omega) only [sH_tg, sH_l1, sH_l2, sH_l3, sH_l4, sH_n5, sH_n6, sH_f0, sH_f1, sH_f2, sH_f3, sH_f4, sH_c1, sH_c2, sH_c3, sH_c4, t0, f0, f1, f2, f3, f4, t1, l1, t2, l2, t3, l3, t4, l4, w1, w2, wt]
      refine e_aast (pc' := 42) hK rfl (by simp (disch := omega) only [sH_tg, sH_l1, sH_l2, sH_l3, sH_l4, sH_n5, sH_n6, sH_f0, sH_f1, sH_f2, sH_f3, sH_f4, sH_c1, sH_c2, sH_c3, sH_c4, t0, f0, f1, f2, f3, f4, t1, l1, t2, l2, t3, l3, t4, l4, w1, w2, wt]; decide) (by first | omega | exact wp _ (by omega) (by omega) (by omega) | (have q0 := hv1.1.1; have q1 := lf_b (q := (fun k => decide (gP (gdrop1 A i) k = gP A i))) (gn (gdrop1 A i)); omega) | (have q1 := hB.2.2.1 i hi0 hi1; omega)) (by (try simp (disch := omega) only [sH_tg, sH_l1, sH_l2, sH_l3, sH_l4, sH_n5, sH_n6, sH_f0, sH_f1, sH_f2, sH_f3, sH_f4, sH_c1, sH_c2, sH_c3, sH_c4, t0, f0, f1, f2, f3, f4, t1, l1, t2, l2, t3, l3, t4, l4, w1, w2, wt]); first | omega | exact wp _ (by omega) (by omega) (by omega) | (have q0 := hv1.1.1; have q1 := lf_b (q := (fun k => decide (gP (gdrop1 A i) k = gP A i))) (gn (gdrop1 A i)); omega) | (have q1 := hB.2.2.1 i hi0 hi1; omega)) rfl ?_
      simp only [sW_5, sW_6, sW_1, sW_2, sW_3, sW_4]
      refine e_step (pc' := 43) hK rfl rfl rfl ?_
      refine e_getR (ci := 2) (k := 2) (pc' := 46) hK rfl (by simp (disch := omega) only [sH_tg, sH_l1, sH_l2, sH_l3, sH_l4, sH_n5, sH_n6, sH_f0, sH_f1, sH_f2, sH_f3, sH_f4, sH_c1, sH_c2, sH_c3, sH_c4, t0, f0, f1, f2, f3, f4, t1, l1, t2, l2, t3, l3, t4, l4, w1, w2, wt]) rfl rfl (by decide) (by decide) (by (try simp (disch := omega) only [sH_tg, sH_l1, sH_l2, sH_l3, sH_l4, sH_n5, sH_n6, sH_f0, sH_f1, sH_f2, sH_f3, sH_f4, sH_c1, sH_c2, sH_c3, sH_c4, t0, f0, f1, f2, f3, f4, t1, l1, t2, l2, t3, l3, t4, l4, w1, w2, wt]); first | omega | exact wp _ (by omega) (by omega) (by omega) | (have q0 := hv1.1.1; have q1 := lf_b (q := (fun k => decide (gP (gdrop1 A i) k = gP A i))) (gn (gdrop1 A i)); omega) | (have q1 := hB.2.2.1 i hi0 hi1; omega)) rfl ?_
      try simp (disch := omega) only [sH_tg, sH_l1, sH_l2, sH_l3, sH_l4, sH_n5, sH_n6, sH_f0, sH_f1, sH_f2, sH_f3, sH_f4, sH_c1, sH_c2, sH_c3, sH_c4, t0, f0, f1, f2, f3, f4, t1, l1, t2, l2, t3, l3, t4, l4, w1, w2, wt]
      refine e_step (pc' := 47) hK rfl rfl rfl ?_
      refine e_step (pc' := 48) hK rfl rfl rfl ?_
      refine e_step (pc' := 49) hK rfl rfl rfl ?_
      refine e_step (pc' := 50) hK rfl rfl rfl ?_
      refine e_getR (ci := 2) (k := 2) (pc' := 53) hK rfl (by simp (disch := omega) only [sH_tg, sH_l1, sH_l2, sH_l3, sH_l4, sH_n5, sH_n6, sH_f0, sH_f1, sH_f2, sH_f3, sH_f4, sH_c1, sH_c2, sH_c3, sH_c4, t0, f0, f1, f2, f3, f4, t1, l1, t2, l2, t3, l3, t4, l4, w1, w2, wt]) rfl rfl (by decide) (by decide) (by (try simp (disch := omega) only [sH_tg, sH_l1, sH_l2, sH_l3, sH_l4, sH_n5, sH_n6, sH_f0, sH_f1, sH_f2, sH_f3, sH_f4, sH_c1, sH_c2, sH_c3, sH_c4, t0, f0, f1, f2, f3, f4, t1, l1, t2, l2, t3, l3, t4, l4, w1, w2, wt]); first | omega | exact wp _ (by omega) (by omega) (by omega) | (have q0 := hv1.1.1; have q1 := lf_b (q := (fun k => decide (gP (gdrop1 A i) k = gP A i))) (gn (gdrop1 A i)); omega) | (have q1 := hB.2.2.1 i hi0 hi1; omega)) rfl ?_
      try simp (disch := omega) only [sH_tg, sH_l1, sH_l2, sH_l3, sH_l4, sH_n5, sH_n6, sH_f0, sH_f1, sH_f2, sH_f3, sH_f4, sH_c1, sH_c2, sH_c3, sH_c4, t0, f0, f1, f2, f3, f4, t1, l1, t2, l2, t3, l3, t4, l4, w1, w2, wt]
      refine e_step (pc' := 54) hK rfl rfl rfl ?_
      refine e_iald (pc' := 55) hK rfl (by simp (disch := omega) only [sH_tg, sH_l1, sH_l2, sH_l3, sH_l4, sH_n5, sH_n6, sH_f0, sH_f1, sH_f2, sH_f3, sH_f4, sH_c1, sH_c2, sH_c3, sH_c4, t0, f0, f1, f2, f3, f4, t1, l1, t2, l2, t3, l3, t4, l4, w1, w2, wt]) (by first | omega | exact wp _ (by omega) (by omega) (by omega) | (have q0 := hv1.1.1; have q1 := lf_b (q := (fun k => decide (gP (gdrop1 A i) k = gP A i))) (gn (gdrop1 A i)); omega) | (have q1 := hB.2.2.1 i hi0 hi1; omega)) (by (try simp (disch := omega) only [sH_tg, sH_l1, sH_l2, sH_l3, sH_l4, sH_n5, sH_n6, sH_f0, sH_f1, sH_f2, sH_f3, sH_f4, sH_c1, sH_c2, sH_c3, sH_c4, t0, f0, f1, f2, f3, f4, t1, l1, t2, l2, t3, l3, t4, l4, w1, w2, wt]); first | omega | exact wp _ (by omega) (by omega) (by omega) | (have q0 := hv1.1.1; have q1 := lf_b (q := (fun k => decide (gP (gdrop1 A i) k = gP A i))) (gn (gdrop1 A i)); omega) | (have q1 := hB.2.2.1 i hi0 hi1; omega)) rfl ?_
      try simp (disch := omega) only [sH_tg, sH_l1, sH_l2, sH_l3, sH_l4, sH_n5, sH_n6, sH_f0, sH_f1, sH_f2, sH_f3, sH_f4, sH_c1, sH_c2, sH_c3, sH_c4, t0, f0, f1, f2, f3, f4, t1, l1, t2, l2, t3, l3, t4, l4, w1, w2, wt]
      refine e_iast (pc' := 56) hK rfl (by simp (disch := omega) only [sH_tg, sH_l1, sH_l2, sH_l3, sH_l4, sH_n5, sH_n6, sH_f0, sH_f1, sH_f2, sH_f3, sH_f4, sH_c1, sH_c2, sH_c3, sH_c4, t0, f0, f1, f2, f3, f4, t1, l1, t2, l2, t3, l3, t4, l4, w1, w2, wt]) (by first | omega | exact wp _ (by omega) (by omega) (by omega) | (have q0 := hv1.1.1; have q1 := lf_b (q := (fun k => decide (gP (gdrop1 A i) k = gP A i))) (gn (gdrop1 A i)); omega) | (have q1 := hB.2.2.1 i hi0 hi1; omega)) (by (try simp (disch := omega) only [sH_tg, sH_l1, sH_l2, sH_l3, sH_l4, sH_n5, sH_n6, sH_f0, sH_f1, sH_f2, sH_f3, sH_f4, sH_c1, sH_c2, sH_c3, sH_c4, t0, f0, f1, f2, f3, f4, t1, l1, t2, l2, t3, l3, t4, l4, w1, w2, wt]); first | omega | exact wp _ (by omega) (by omega) (by omega) | (have q0 := hv1.1.1; have q1 := lf_b (q := (fun k => decide (gP (gdrop1 A i) k = gP A i))) (gn (gdrop1 A i)); omega) | (have q1 := hB.2.2.1 i hi0 hi1; omega)) rfl ?_
      simp only [sW_5, sW_6, sW_1, sW_2, sW_3, sW_4]
      refine e_step (pc' := 59) hK rfl rfl rfl ?_
      try simp only [List.set_cons_zero, List.set_cons_succ]
      refine e_goto (t := 20) hK rfl (by decide) ?_
      rw [show i + 1 + (j : Int) + 1 = i + 1 + ((j + 1 : Nat) : Int) from by omega]
      exact ih (j + 1) _ ⟨by omega, by first | exact w1 | rfl, by first | exact w2 | rfl, shp w3 (by omega) (by omega) (by omega) (by omega), shp w4 (by omega) (by omega) (by omega) (by omega), w5⟩
set_option maxRecDepth 10000 in
theorem c_dropL0 {s : Int} {v : sv} {A : lg} (hw : StW h s) (hv : StV h v A) (i : Int) (hi : mv_i i) : mv_Cl sc q_State_dropLine [(2, s), (0, i)] c (sH h s v) (fun r c' h' => r = (3, 0) ∧ c' = c ∧ ∃ w, h' = sH h s w ∧ StV h w (gdrop A i)) := by
  have hw0 := hw
  have hv0 := hv
  obtain ⟨s1, s2, t0, f0, f1, f2, f3, f4, ⟨t1, l1⟩, ⟨t2, l2⟩, ⟨t3, l3⟩, ⟨t4, l4⟩, hl0⟩ := hw
  obtain ⟨hB, v1, v2, v3, v4, v5, v6⟩ := hv
  have b1 := hB.1
  have b2 := hB.2.1
  show mv_Ev sc 31 0 [(2, s), (0, i), (5, 0), (5, 0)] [] c (sH h s v) _
  have hK : (mv_m 31).1 = kc_State_dropLine := rfl
  refine e_step (pc' := 1) hK rfl rfl rfl ?_
  refine e_step (pc' := 2) hK rfl rfl rfl ?_
  refine e_cRV2 (z := 32) (pc' := 5) hK rfl rfl (by simp (disch := omega) only [sH_tg, sH_l1, sH_l2, sH_l3, sH_l4, sH_n5, sH_n6, sH_f0, sH_f1, sH_f2, sH_f3, sH_f4, sH_c1, sH_c2, sH_c3, sH_c4, t0, f0, f1, f2, f3, f4, t1, l1, t2, l2, t3, l3, t4, l4, v1, v2, v4]; rfl) rfl (Nat.le_of_ble_eq_true rfl) (Nat.le_of_ble_eq_true rfl) (c_hasLine (StA.mk hw0 hv0) i hi) (by decide) rfl ?_
  try simp (disch := omega) only [sH_tg, sH_l1, sH_l2, sH_l3, sH_l4, sH_n5, sH_n6, sH_f0, sH_f1, sH_f2, sH_f3, sH_f4, sH_c1, sH_c2, sH_c3, sH_c4, t0, f0, f1, f2, f3, f4, t1, l1, t2, l2, t3, l3, t4, l4, v1, v2, v4]
  refine e_if (t := 9) (pc' := 8) hK rfl (by first | omega | exact bo_i _) (by decide) rfl (fun hb5 => ?_) (fun hb5 => ?_)
  · replace hb5 := cq_ne.1.mp hb5
    try simp only [bo_0, Bool.not_eq_false] at hb5
    obtain ⟨hi0, hi1⟩ : 0 ≤ i ∧ i < gn A := by simpa only [Bool.and_eq_true, decide_eq_true_eq] using hb5
    refine e_step (pc' := 10) hK rfl rfl rfl ?_
    refine e_getR (ci := 2) (k := 2) (pc' := 13) hK rfl (by simp (disch := omega) only [sH_tg, sH_l1, sH_l2, sH_l3, sH_l4, sH_n5, sH_n6, sH_f0, sH_f1, sH_f2, sH_f3, sH_f4, sH_c1, sH_c2, sH_c3, sH_c4, t0, f0, f1, f2, f3, f4, t1, l1, t2, l2, t3, l3, t4, l4, v1, v2, v4]) rfl rfl (by decide) (by decide) (by (try simp (disch := omega) only [sH_tg, sH_l1, sH_l2, sH_l3, sH_l4, sH_n5, sH_n6, sH_f0, sH_f1, sH_f2, sH_f3, sH_f4, sH_c1, sH_c2, sH_c3, sH_c4, t0, f0, f1, f2, f3, f4, t1, l1, t2, l2, t3, l3, t4, l4, v1, v2, v4]); first | omega | exact bo_i _) rfl ?_
    try simp (disch := omega) only [sH_tg, sH_l1, sH_l2, sH_l3, sH_l4, sH_n5, sH_n6, sH_f0, sH_f1, sH_f2, sH_f3, sH_f4, sH_c1, sH_c2, sH_c3, sH_c4, t0, f0, f1, f2, f3, f4, t1, l1, t2, l2, t3, l3, t4, l4, v1, v2, v4]
    refine e_step (pc' := 14) hK rfl rfl rfl ?_
    refine e_iald (pc' := 15) hK rfl (by simp (disch := omega) only [sH_tg, sH_l1, sH_l2, sH_l3, sH_l4, sH_n5, sH_n6, sH_f0, sH_f1, sH_f2, sH_f3, sH_f4, sH_c1, sH_c2, sH_c3, sH_c4, t0, f0, f1, f2, f3, f4, t1, l1, t2, l2, t3, l3, t4, l4, v1, v2, v4]) (by first | omega | exact bo_i _) (by (try simp (disch := omega) only [sH_tg, sH_l1, sH_l2, sH_l3, sH_l4, sH_n5, sH_n6, sH_f0, sH_f1, sH_f2, sH_f3, sH_f4, sH_c1, sH_c2, sH_c3, sH_c4, t0, f0, f1, f2, f3, f4, t1, l1, t2, l2, t3, l3, t4, l4, v1, v2, v4]); first | omega | exact bo_i _) rfl ?_
    try simp (disch := omega) only [sH_tg, sH_l1, sH_l2, sH_l3, sH_l4, sH_n5, sH_n6, sH_f0, sH_f1, sH_f2, sH_f3, sH_f4, sH_c1, sH_c2, sH_c3, sH_c4, t0, f0, f1, f2, f3, f4, t1, l1, t2, l2, t3, l3, t4, l4, v1, v2, v4]
    refine e_step (pc' := 16) hK rfl rfl rfl ?_
    try simp only [List.set_cons_zero, List.set_cons_succ]
    refine e_step (pc' := 17) hK rfl rfl rfl ?_
    refine e_step (pc' := 18) hK rfl rfl rfl ?_
    refine e_step (pc' := 19) hK rfl rfl rfl ?_
    refine e_step (pc' := 20) hK rfl rfl rfl ?_
    try simp only [List.set_cons_zero, List.set_cons_succ]
    have q1 := c_dropL1 (sc := sc) (c := c) hw0 hv0 i hi0 hi1 (gn A - 1 - i.toNat) 0 v ⟨by omega, v1, v2, fun k => by rw [if_neg (by omega)], fun k => by rw [if_neg (by omega)], rfl⟩
    simp only [Int.ofNat_zero, Int.natCast_zero, Int.add_zero] at q1
    exact q1
  · replace hb5 := cq_ne.2.mp hb5
    try simp only [bo_0, Bool.not_eq_false] at hb5
    refine e_ret hK rfl rfl rfl ?_
    refine ⟨rfl, rfl, v, rfl, ?_⟩
    unfold gdrop
    rw [if_neg (by intro q; rw [decide_eq_true q.1, decide_eq_true q.2] at hb5; cases hb5)]
    exact hv0
theorem p2b {q : Int} (h0 : 0 ≤ q) (h1 : q < 12) : 0 ≤ (1 : Int) * 2 ^ q.toNat ∧ (1 : Int) * 2 ^ q.toNat ≤ 4096 := by
  have b2 : 2 ^ q.toNat ≤ 2 ^ 12 := Nat.pow_le_pow_right (by decide) (by omega)
  have e : (2 : Int) ^ q.toNat = ((2 ^ q.toNat : Nat) : Int) := by rw [Int.natCast_pow]; rfl
  have b4 : (2 : Nat) ^ 12 = 4096 := rfl
  rw [Int.one_mul, e]
  rw [b4] at b2
  exact ⟨Int.natCast_nonneg _, Int.ofNat_le.mpr b2⟩
set_option maxRecDepth 10000 in
theorem c_open0 {s : Int} {v : sv} {A : lg} (hw : StW h s) (hv : StV h v A) (t q : Int) (ht : mv_i t) (hq : mv_i q) : mv_Cl sc q_State_openWord [(2, s), (0, t), (0, q)] c (sH h s v) (fun r c' h' => r = (3, 0) ∧ c' = c ∧ ∃ w, h' = sH h s w ∧ StV h w (gopen A t q)) := by
  have hw0 := hw
  have hv0 := hv
  obtain ⟨s1, s2, t0, f0, f1, f2, f3, f4, ⟨t1, l1⟩, ⟨t2, l2⟩, ⟨t3, l3⟩, ⟨t4, l4⟩, hl0⟩ := hw
  obtain ⟨hB, v1, v2, v3, v4, v5, v6⟩ := hv
  have b1 := hB.1
  have b2 := hB.2.1
  show mv_Ev sc 20 0 [(2, s), (0, t), (0, q)] [] c (sH h s v) _
  have hK : (mv_m 20).1 = kc_State_openWord := rfl
  refine e_step (pc' := 1) hK rfl rfl rfl ?_
  refine e_if (t := 34) (pc' := 4) hK rfl (by first | omega | (have q1 := v6 t (by omega) (by omega); have q2 := q1.1; have q3 := q1.2.1; have q4 := p2b (q := q) (by omega) (by omega); omega)) (by decide) rfl (fun hb1 => ?_) (fun hb1 => ?_)
  · replace hb1 := cq_lt.1.mp hb1
    refine e_ret hK rfl rfl rfl ?_
    refine ⟨rfl, rfl, v, rfl, ?_⟩
    unfold gopen
    rw [if_neg (by omega)]
    exact hv0
  · replace hb1 := cq_lt.2.mp hb1
    refine e_step (pc' := 5) hK rfl rfl rfl ?_
    refine e_step (pc' := 6) hK rfl rfl rfl ?_
    refine e_getI (ci := 2) (k := 6) (pc' := 9) hK rfl (by simp (disch := omega) only [sH_tg, sH_l1, sH_l2, sH_l3, sH_l4, sH_n5, sH_n6, sH_f0, sH_f1, sH_f2, sH_f3, sH_f4, sH_c1, sH_c2, sH_c3, sH_c4, t0, f0, f1, f2, f3, f4, t1, l1, t2, l2, t3, l3, t4, l4, v1, v2]) rfl rfl (by decide) (by decide) rfl ?_
    try simp (disch := omega) only [sH_tg, sH_l1, sH_l2, sH_l3, sH_l4, sH_n5, sH_n6, sH_f0, sH_f1, sH_f2, sH_f3, sH_f4, sH_c1, sH_c2, sH_c3, sH_c4, t0, f0, f1, f2, f3, f4, t1, l1, t2, l2, t3, l3, t4, l4, v1, v2]
    refine e_icmp (t := 34) (pc' := 12) hK rfl (by first | omega | (have q1 := v6 t (by omega) (by omega); have q2 := q1.1; have q3 := q1.2.1; have q4 := p2b (q := q) (by omega) (by omega); omega)) (by first | omega | (have q1 := v6 t (by omega) (by omega); have q2 := q1.1; have q3 := q1.2.1; have q4 := p2b (q := q) (by omega) (by omega); omega)) (by decide) rfl (fun hb9 => ?_) (fun hb9 => ?_)
    · replace hb9 := cq_ge.1.mp hb9
      refine e_ret hK rfl rfl rfl ?_
      refine ⟨rfl, rfl, v, rfl, ?_⟩
      unfold gopen
      rw [if_neg (by omega)]
      exact hv0
    · replace hb9 := cq_ge.2.mp hb9
      refine e_step (pc' := 13) hK rfl rfl rfl ?_
      refine e_if (t := 34) (pc' := 16) hK rfl (by first | omega | (have q1 := v6 t (by omega) (by omega); have q2 := q1.1; have q3 := q1.2.1; have q4 := p2b (q := q) (by omega) (by omega); omega)) (by decide) rfl (fun hb13 => ?_) (fun hb13 => ?_)
      · replace hb13 := cq_lt.1.mp hb13
        refine e_ret hK rfl rfl rfl ?_
        refine ⟨rfl, rfl, v, rfl, ?_⟩
        unfold gopen
        rw [if_neg (by omega)]
        exact hv0
      · replace hb13 := cq_lt.2.mp hb13
        refine e_step (pc' := 17) hK rfl rfl rfl ?_
        refine e_step (pc' := 19) hK rfl rfl rfl ?_
        refine e_icmp (t := 34) (pc' := 22) hK rfl (by first | omega | (have q1 := v6 t (by omega) (by omega); have q2 := q1.1; have q3 := q1.2.1; have q4 := p2b (q := q) (by omega) (by omega); omega)) (by first | omega | (have q1 := v6 t (by omega) (by omega); have q2 := q1.1; have q3 := q1.2.1; have q4 := p2b (q := q) (by omega) (by omega); omega)) (by decide) rfl (fun hb19 => ?_) (fun hb19 => ?_)
        · replace hb19 := cq_ge.1.mp hb19
          refine e_ret hK rfl rfl rfl ?_
          refine ⟨rfl, rfl, v, rfl, ?_⟩
          unfold gopen
          rw [if_neg (by omega)]
          exact hv0
        · replace hb19 := cq_ge.2.mp hb19
          refine e_step (pc' := 23) hK rfl rfl rfl ?_
          refine e_getR (ci := 2) (k := 4) (pc' := 26) hK rfl (by simp (disch := omega) only [sH_tg, sH_l1, sH_l2, sH_l3, sH_l4, sH_n5, sH_n6, sH_f0, sH_f1, sH_f2, sH_f3, sH_f4, sH_c1, sH_c2, sH_c3, sH_c4, t0, f0, f1, f2, f3, f4, t1, l1, t2, l2, t3, l3, t4, l4, v1, v2]) rfl rfl (by decide) (by decide) (by (try simp (disch := omega) only [sH_tg, sH_l1, sH_l2, sH_l3, sH_l4, sH_n5, sH_n6, sH_f0, sH_f1, sH_f2, sH_f3, sH_f4, sH_c1, sH_c2, sH_c3, sH_c4, t0, f0, f1, f2, f3, f4, t1, l1, t2, l2, t3, l3, t4, l4, v1, v2]); first | omega | (have q1 := v6 t (by omega) (by omega); have q2 := q1.1; have q3 := q1.2.1; have q4 := p2b (q := q) (by omega) (by omega); omega)) rfl ?_
          try simp (disch := omega) only [sH_tg, sH_l1, sH_l2, sH_l3, sH_l4, sH_n5, sH_n6, sH_f0, sH_f1, sH_f2, sH_f3, sH_f4, sH_c1, sH_c2, sH_c3, sH_c4, t0, f0, f1, f2, f3, f4, t1, l1, t2, l2, t3, l3, t4, l4, v1, v2]
          refine e_step (pc' := 27) hK rfl rfl rfl ?_
          refine e_step (pc' := 28) hK rfl rfl rfl ?_
          refine e_iald (pc' := 29) hK rfl (by simp (disch := omega) only [sH_tg, sH_l1, sH_l2, sH_l3, sH_l4, sH_n5, sH_n6, sH_f0, sH_f1, sH_f2, sH_f3, sH_f4, sH_c1, sH_c2, sH_c3, sH_c4, t0, f0, f1, f2, f3, f4, t1, l1, t2, l2, t3, l3, t4, l4, v1, v2]) (by first | omega | (have q1 := v6 t (by omega) (by omega); have q2 := q1.1; have q3 := q1.2.1; have q4 := p2b (q := q) (by omega) (by omega); omega)) (by (try simp (disch := omega) only [sH_tg, sH_l1, sH_l2, sH_l3, sH_l4, sH_n5, sH_n6, sH_f0, sH_f1, sH_f2, sH_f3, sH_f4, sH_c1, sH_c2, sH_c3, sH_c4, t0, f0, f1, f2, f3, f4, t1, l1, t2, l2, t3, l3, t4, l4, v1, v2]); first | omega | (have q1 := v6 t (by omega) (by omega); have q2 := q1.1; have q3 := q1.2.1; have q4 := p2b (q := q) (by omega) (by omega); omega)) rfl ?_
          try simp (disch := omega) only [sH_tg, sH_l1, sH_l2, sH_l3, sH_l4, sH_n5, sH_n6, sH_f0, sH_f1, sH_f2, sH_f3, sH_f4, sH_c1, sH_c2, sH_c3, sH_c4, t0, f0, f1, f2, f3, f4, t1, l1, t2, l2, t3, l3, t4, l4, v1, v2]
          refine e_step (pc' := 30) hK rfl rfl rfl ?_
          refine e_step (pc' := 31) hK rfl rfl rfl ?_
          refine e_ishl (pc' := 32) hK rfl (by first | omega | (have q1 := v6 t (by omega) (by omega); have q2 := q1.1; have q3 := q1.2.1; have q4 := p2b (q := q) (by omega) (by omega); omega)) (by first | omega | (have q1 := v6 t (by omega) (by omega); have q2 := q1.1; have q3 := q1.2.1; have q4 := p2b (q := q) (by omega) (by omega); omega)) rfl ?_
          refine e_ior (pc' := 33) hK rfl (by first | omega | (have q1 := v6 t (by omega) (by omega); have q2 := q1.1; have q3 := q1.2.1; have q4 := p2b (q := q) (by omega) (by omega); omega)) (by first | omega | (have q1 := v6 t (by omega) (by omega); have q2 := q1.1; have q3 := q1.2.1; have q4 := p2b (q := q) (by omega) (by omega); omega)) (by first | omega | (have q1 := v6 t (by omega) (by omega); have q2 := q1.1; have q3 := q1.2.1; have q4 := p2b (q := q) (by omega) (by omega); omega)) (by first | omega | (have q1 := v6 t (by omega) (by omega); have q2 := q1.1; have q3 := q1.2.1; have q4 := p2b (q := q) (by omega) (by omega); omega)) rfl ?_
          refine e_iast (pc' := 34) hK rfl (by simp (disch := omega) only [sH_tg, sH_l1, sH_l2, sH_l3, sH_l4, sH_n5, sH_n6, sH_f0, sH_f1, sH_f2, sH_f3, sH_f4, sH_c1, sH_c2, sH_c3, sH_c4, t0, f0, f1, f2, f3, f4, t1, l1, t2, l2, t3, l3, t4, l4, v1, v2]) (by first | omega | (have q1 := v6 t (by omega) (by omega); have q2 := q1.1; have q3 := q1.2.1; have q4 := p2b (q := q) (by omega) (by omega); omega)) (by (try simp (disch := omega) only [sH_tg, sH_l1, sH_l2, sH_l3, sH_l4, sH_n5, sH_n6, sH_f0, sH_f1, sH_f2, sH_f3, sH_f4, sH_c1, sH_c2, sH_c3, sH_c4, t0, f0, f1, f2, f3, f4, t1, l1, t2, l2, t3, l3, t4, l4, v1, v2]); first | omega | (have q1 := v6 t (by omega) (by omega); have q2 := q1.1; have q3 := q1.2.1; have q4 := p2b (q := q) (by omega) (by omega); omega)) rfl ?_
          simp only [sW_5, sW_6, sW_1, sW_2, sW_3, sW_4]
          refine e_ret hK rfl rfl rfl ?_
          exact ⟨rfl, rfl, _, rfl, hv0.opn (by omega) (by omega) (by omega) (by omega) rfl rfl rfl rfl rfl rfl⟩
set_option maxRecDepth 10000 in
theorem c_move1 {s : Int} {v : sv} {A : lg} (hw : StW h s) (hv : StV h v A) (u t : Int) (hu : mv_i u) (ht : 0 ≤ t) (ht2 : t ≤ 12) : ∀ (m : Nat) (i : Nat) (w : sv), i + m = gn A ∧ w.1 = gn A ∧ w.2.1 = (gT A : Int) ∧ w.2.2.1 = v.2.2.1 ∧ (∀ k : Int, 0 ≤ k → k < gn A → w.2.2.2.1 k = if k < i then (if v.2.2.2.1 k = u then t else v.2.2.2.1 k) else v.2.2.2.1 k) ∧ w.2.2.2.2 = v.2.2.2.2 → mv_Ev sc 21 2 [(2, s), (0, u), (0, t), (0, (i : Int))] [] c (sH h s w) (fun r c' h' => r = (3, 0) ∧ c' = c ∧ ∃ w, h' = sH h s w ∧ StV h w (gmove A u t)) := by
  intro m
  induction m with
  | zero =>
    intro i w hi
    have hw0 := hw
    have hv0 := hv
    obtain ⟨s1, s2, t0, f0, f1, f2, f3, f4, ⟨t1, l1⟩, ⟨t2, l2⟩, ⟨t3, l3⟩, ⟨t4, l4⟩, hl0⟩ := hw
    obtain ⟨hB, v1, v2, v3, v4, v5, v6⟩ := hv
    have b1 := hB.1
    have b2 := hB.2.1
    obtain ⟨hi, w1, w2, w3, w4, w5⟩ := hi
    have hK : (mv_m 21).1 = kc_State_moveLines := rfl
    refine e_step (pc' := 3) hK rfl rfl rfl ?_
    refine e_step (pc' := 4) hK rfl rfl rfl ?_
    refine e_getI (ci := 2) (k := 5) (pc' := 7) hK rfl (by simp (disch := omega) only [sH_tg, sH_l1, sH_l2, sH_l3, sH_l4, sH_n5, sH_n6, sH_f0, sH_f1, sH_f2, sH_f3, sH_f4, sH_c1, sH_c2, sH_c3, sH_c4, t0, f0, f1, f2, f3, f4, t1, l1, t2, l2, t3, l3, t4, l4, w1, w2]) rfl rfl (by decide) (by decide) rfl ?_
    try simp (disch := omega) only [sH_tg, sH_l1, sH_l2, sH_l3, sH_l4, sH_n5, sH_n6, sH_f0, sH_f1, sH_f2, sH_f3, sH_f4, sH_c1, sH_c2, sH_c3, sH_c4, t0, f0, f1, f2, f3, f4, t1, l1, t2, l2, t3, l3, t4, l4, w1, w2]
    refine e_icmp (t := 33) (pc' := 10) hK rfl (by first | omega | (have q1 := w4 (i : Int) (by omega) (by omega); rw [if_neg (by omega)] at q1; have q2 := hB.2.2.1 (i : Int) (by omega) (by omega); have q3 := v4 (i : Int) (by omega) (by omega); omega)) (by first | omega | (have q1 := w4 (i : Int) (by omega) (by omega); rw [if_neg (by omega)] at q1; have q2 := hB.2.2.1 (i : Int) (by omega) (by omega); have q3 := v4 (i : Int) (by omega) (by omega); omega)) (by decide) rfl (fun hb7 => ?_) (fun hb7 => ?_)
    · replace hb7 := cq_ge.1.mp hb7
      have hv1 : StV h w (gmv A u t) := hv0.mv ht ht2 (w1.trans v1.symm) (w2.trans v2.symm) w3 (fun k h0 h1 => (w4 k h0 h1).trans (if_pos (by omega))) w5
      refine e_step (pc' := 34) hK rfl rfl rfl ?_
      refine e_step (pc' := 35) hK rfl rfl rfl ?_
      refine e_cQV2 (z := 22) hK rfl rfl (by simp (disch := omega) only [sH_tg, sH_l1, sH_l2, sH_l3, sH_l4, sH_n5, sH_n6, sH_f0, sH_f1, sH_f2, sH_f3, sH_f4, sH_c1, sH_c2, sH_c3, sH_c4, t0, f0, f1, f2, f3, f4, t1, l1, t2, l2, t3, l3, t4, l4, w1, w2]; rfl) rfl (Nat.le_of_ble_eq_true rfl) (Nat.le_of_ble_eq_true rfl) (c_dropT0 hw0 hv1 u hu) ?_
      rintro _ _ _ ⟨rfl, rfl, w6, rfl, hv2⟩
      refine ⟨by decide, ?_⟩
      rw [if_pos rfl]
      show mv_Ev _ _ 38 _ _ _ _ _
      refine e_ret hK rfl rfl rfl ?_
      exact ⟨rfl, rfl, w6, rfl, hv2⟩
    · replace hb7 := cq_ge.2.mp hb7
      exfalso; first | omega | exact absurd trivial (by assumption) | (first | omega | (have q1 := w4 (i : Int) (by omega) (by omega); rw [if_neg (by omega)] at q1; have q2 := hB.2.2.1 (i : Int) (by omega) (by omega); have q3 := v4 (i : Int) (by omega) (by omega); omega))
  | succ m ih =>
    intro i w hi
    have hw0 := hw
    have hv0 := hv
    obtain ⟨s1, s2, t0, f0, f1, f2, f3, f4, ⟨t1, l1⟩, ⟨t2, l2⟩, ⟨t3, l3⟩, ⟨t4, l4⟩, hl0⟩ := hw
    obtain ⟨hB, v1, v2, v3, v4, v5, v6⟩ := hv
    have b1 := hB.1
    have b2 := hB.2.1
    obtain ⟨hi, w1, w2, w3, w4, w5⟩ := hi
    have hK : (mv_m 21).1 = kc_State_moveLines := rfl
    refine e_step (pc' := 3) hK rfl rfl rfl ?_
    refine e_step (pc' := 4) hK rfl rfl rfl ?_
    refine e_getI (ci := 2) (k := 5) (pc' := 7) hK rfl (by simp (disch := omega) only [sH_tg, sH_l1, sH_l2, sH_l3, sH_l4, sH_n5, sH_n6, sH_f0, sH_f1, sH_f2, sH_f3, sH_f4, sH_c1, sH_c2, sH_c3, sH_c4, t0, f0, f1, f2, f3, f4, t1, l1, t2, l2, t3, l3, t4, l4, w1, w2]) rfl rfl (by decide) (by decide) rfl ?_
    try simp (disch := omega) only [sH_tg, sH_l1, sH_l2, sH_l3, sH_l4, sH_n5, sH_n6, sH_f0, sH_f1, sH_f2, sH_f3, sH_f4, sH_c1, sH_c2, sH_c3, sH_c4, t0, f0, f1, f2, f3, f4, t1, l1, t2, l2, t3, l3, t4, l4, w1, w2]
    refine e_icmp (t := 33) (pc' := 10) hK rfl (by first | omega | (have q1 := w4 (i : Int) (by omega) (by omega); rw [if_neg (by omega)] at q1; have q2 := hB.2.2.1 (i : Int) (by omega) (by omega); have q3 := v4 (i : Int) (by omega) (by omega); omega)) (by first | omega | (have q1 := w4 (i : Int) (by omega) (by omega); rw [if_neg (by omega)] at q1; have q2 := hB.2.2.1 (i : Int) (by omega) (by omega); have q3 := v4 (i : Int) (by omega) (by omega); omega)) (by decide) rfl (fun hb7 => ?_) (fun hb7 => ?_)
    · replace hb7 := cq_ge.1.mp hb7
      exfalso; first | omega | exact absurd trivial (by assumption) | (first | omega | (have q1 := w4 (i : Int) (by omega) (by omega); rw [if_neg (by omega)] at q1; have q2 := hB.2.2.1 (i : Int) (by omega) (by omega); have q3 := v4 (i : Int) (by omega) (by omega); omega))
    · replace hb7 := cq_ge.2.mp hb7
      refine e_step (pc' := 11) hK rfl rfl rfl ?_
      refine e_getR (ci := 2) (k := 2) (pc' := 14) hK rfl (by simp (disch := omega) only [sH_tg, sH_l1, sH_l2, sH_l3, sH_l4, sH_n5, sH_n6, sH_f0, sH_f1, sH_f2, sH_f3, sH_f4, sH_c1, sH_c2, sH_c3, sH_c4, t0, f0, f1, f2, f3, f4, t1, l1, t2, l2, t3, l3, t4, l4, w1, w2]) rfl rfl (by decide) (by decide) (by (try simp (disch := omega) only [sH_tg, sH_l1, sH_l2, sH_l3, sH_l4, sH_n5, sH_n6, sH_f0, sH_f1, sH_f2, sH_f3, sH_f4, sH_c1, sH_c2, sH_c3, sH_c4, t0, f0, f1, f2, f3, f4, t1, l1, t2, l2, t3, l3, t4, l4, w1, w2]); first | omega | (have q1 := w4 (i : Int) (by omega) (by omega); rw [if_neg (by omega)] at q1; have q2 := hB.2.2.1 (i : Int) (by omega) (by omega); have q3 := v4 (i : Int) (by omega) (by omega); omega)) rfl ?_
      try simp (disch := omega) only [sH_tg, sH_l1, sH_l2, sH_l3, sH_l4, sH_n5, sH_n6, sH_f0, sH_f1, sH_f2, sH_f3, sH_f4, sH_c1, sH_c2, sH_c3, sH_c4, t0, f0, f1, f2, f3, f4, t1, l1, t2, l2, t3, l3, t4, l4, w1, w2]
      refine e_step (pc' := 15) hK rfl rfl rfl ?_
      refine e_iald (pc' := 16) hK rfl (by simp (disch := omega) only [sH_tg, sH_l1, sH_l2, sH_l3, sH_l4, sH_n5, sH_n6, sH_f0, sH_f1, sH_f2, sH_f3, sH_f4, sH_c1, sH_c2, sH_c3, sH_c4, t0, f0, f1, f2, f3, f4, t1, l1, t2, l2, t3, l3, t4, l4, w1, w2]) (by first | omega | (have q1 := w4 (i : Int) (by omega) (by omega); rw [if_neg (by omega)] at q1; have q2 := hB.2.2.1 (i : Int) (by omega) (by omega); have q3 := v4 (i : Int) (by omega) (by omega); omega)) (by (try simp (disch := omega) only [sH_tg, sH_l1, sH_l2, sH_l3, sH_l4, sH_n5, sH_n6, sH_f0, sH_f1, sH_f2, sH_f3, sH_f4, sH_c1, sH_c2, sH_c3, sH_c4, t0, f0, f1, f2, f3, f4, t1, l1, t2, l2, t3, l3, t4, l4, w1, w2]); first | omega | (have q1 := w4 (i : Int) (by omega) (by omega); rw [if_neg (by omega)] at q1; have q2 := hB.2.2.1 (i : Int) (by omega) (by omega); have q3 := v4 (i : Int) (by omega) (by omega); omega)) rfl ?_
      try simp (disch := omega) only [sH_tg, sH_l1, sH_l2, sH_l3, sH_l4, sH_n5, sH_n6, sH_f0, sH_f1, sH_f2, sH_f3, sH_f4, sH_c1, sH_c2, sH_c3, sH_c4, t0, f0, f1, f2, f3, f4, t1, l1, t2, l2, t3, l3, t4, l4, w1, w2]
      refine e_step (pc' := 17) hK rfl rfl rfl ?_
      refine e_icmp (t := 27) (pc' := 20) hK rfl (by first | omega | (have q1 := w4 (i : Int) (by omega) (by omega); rw [if_neg (by omega)] at q1; have q2 := hB.2.2.1 (i : Int) (by omega) (by omega); have q3 := v4 (i : Int) (by omega) (by omega); omega)) (by first | omega | (have q1 := w4 (i : Int) (by omega) (by omega); rw [if_neg (by omega)] at q1; have q2 := hB.2.2.1 (i : Int) (by omega) (by omega); have q3 := v4 (i : Int) (by omega) (by omega); omega)) (by decide) rfl (fun hb17 => ?_) (fun hb17 => ?_)
      · replace hb17 := cq_ne.1.mp hb17
        refine e_step (pc' := 30) hK rfl rfl rfl ?_
        try simp only [List.set_cons_zero, List.set_cons_succ]
        refine e_goto (t := 2) hK rfl (by decide) ?_
        have q1 := w4 (i : Int) (by omega) (by omega)
        rw [if_neg (by omega)] at q1
        exact ih (i + 1) _ ⟨by omega, by first | exact w1 | rfl, by first | exact w2 | rfl, w3, upp2 (f := (fun k => if v.2.2.2.1 k = u then t else v.2.2.2.1 k)) w4 rfl (by show (if _ then _ else _) = _; rw [if_neg (by omega)]), w5⟩
      · replace hb17 := cq_ne.2.mp hb17
        refine e_step (pc' := 21) hK rfl rfl rfl ?_
        refine e_getR (ci := 2) (k := 2) (pc' := 24) hK rfl (by simp (disch := omega) only [sH_tg, sH_l1, sH_l2, sH_l3, sH_l4, sH_n5, sH_n6, sH_f0, sH_f1, sH_f2, sH_f3, sH_f4, sH_c1, sH_c2, sH_c3, sH_c4, t0, f0, f1, f2, f3, f4, t1, l1, t2, l2, t3, l3, t4, l4, w1, w2]) rfl rfl (by decide) (by decide) (by (try simp (disch := omega) only [sH_tg, sH_l1, sH_l2, sH_l3, sH_l4, sH_n5, sH_n6, sH_f0, sH_f1, sH_f2, sH_f3, sH_f4, sH_c1, sH_c2, sH_c3, sH_c4, t0, f0, f1, f2, f3, f4, t1, l1, t2, l2, t3, l3, t4, l4, w1, w2]); first | omega | (have q1 := w4 (i : Int) (by omega) (by omega); rw [if_neg (by omega)] at q1; have q2 := hB.2.2.1 (i : Int) (by omega) (by omega); have q3 := v4 (i : Int) (by omega) (by omega); omega)) rfl ?_
        try simp (disch := omega) only [sH_tg, sH_l1, sH_l2, sH_l3, sH_l4, sH_n5, sH_n6, sH_f0, sH_f1, sH_f2, sH_f3, sH_f4, sH_c1, sH_c2, sH_c3, sH_c4, t0, f0, f1, f2, f3, f4, t1, l1, t2, l2, t3, l3, t4, l4, w1, w2]
        refine e_step (pc' := 25) hK rfl rfl rfl ?_
        refine e_step (pc' := 26) hK rfl rfl rfl ?_
        refine e_iast (pc' := 27) hK rfl (by simp (disch := omega) only [sH_tg, sH_l1, sH_l2, sH_l3, sH_l4, sH_n5, sH_n6, sH_f0, sH_f1, sH_f2, sH_f3, sH_f4, sH_c1, sH_c2, sH_c3, sH_c4, t0, f0, f1, f2, f3, f4, t1, l1, t2, l2, t3, l3, t4, l4, w1, w2]) (by first | omega | (have q1 := w4 (i : Int) (by omega) (by omega); rw [if_neg (by omega)] at q1; have q2 := hB.2.2.1 (i : Int) (by omega) (by omega); have q3 := v4 (i : Int) (by omega) (by omega); omega)) (by (try simp (disch := omega) only [sH_tg, sH_l1, sH_l2, sH_l3, sH_l4, sH_n5, sH_n6, sH_f0, sH_f1, sH_f2, sH_f3, sH_f4, sH_c1, sH_c2, sH_c3, sH_c4, t0, f0, f1, f2, f3, f4, t1, l1, t2, l2, t3, l3, t4, l4, w1, w2]); first | omega | (have q1 := w4 (i : Int) (by omega) (by omega); rw [if_neg (by omega)] at q1; have q2 := hB.2.2.1 (i : Int) (by omega) (by omega); have q3 := v4 (i : Int) (by omega) (by omega); omega)) rfl ?_
        simp only [sW_5, sW_6, sW_1, sW_2, sW_3, sW_4]
        refine e_step (pc' := 30) hK rfl rfl rfl ?_
        try simp only [List.set_cons_zero, List.set_cons_succ]
        refine e_goto (t := 2) hK rfl (by decide) ?_
        have q1 := w4 (i : Int) (by omega) (by omega)
        rw [if_neg (by omega)] at q1
        exact ih (i + 1) _ ⟨by omega, by first | exact w1 | rfl, by first | exact w2 | rfl, w3, upp1 (f := (fun k => if v.2.2.2.1 k = u then t else v.2.2.2.1 k)) w4 rfl (by show _ = if _ then _ else _; rw [if_pos (by omega)]), w5⟩
set_option maxRecDepth 10000 in
theorem c_move0 {s : Int} {v : sv} {A : lg} (hw : StW h s) (hv : StV h v A) (u t : Int) (hu : mv_i u) (ht : 0 ≤ t) (ht2 : t ≤ 12) : mv_Cl sc q_State_moveLines [(2, s), (0, u), (0, t)] c (sH h s v) (fun r c' h' => r = (3, 0) ∧ c' = c ∧ ∃ w, h' = sH h s w ∧ StV h w (gmove A u t)) := by
  have hw0 := hw
  have hv0 := hv
  obtain ⟨s1, s2, t0, f0, f1, f2, f3, f4, ⟨t1, l1⟩, ⟨t2, l2⟩, ⟨t3, l3⟩, ⟨t4, l4⟩, hl0⟩ := hw
  obtain ⟨hB, v1, v2, v3, v4, v5, v6⟩ := hv
  have b1 := hB.1
  have b2 := hB.2.1
  show mv_Ev sc 21 0 [(2, s), (0, u), (0, t), (5, 0)] [] c (sH h s v) _
  have hK : (mv_m 21).1 = kc_State_moveLines := rfl
  refine e_step (pc' := 1) hK rfl rfl rfl ?_
  refine e_step (pc' := 2) hK rfl rfl rfl ?_
  try simp only [List.set_cons_zero, List.set_cons_succ]
  exact c_move1 hw0 hv0 u t hu ht ht2 (gn A) 0 v ⟨by omega, v1, v2, rfl, fun k h0 h1 => by rw [if_neg (by omega)], rfl⟩
set_option maxRecDepth 10000 in
theorem c_copy2 {s o : Int} {B : lg} (hw : StW h s) (ho : StA h o B) (hd : s + 5 ≤ o ∨ o + 5 ≤ s) : ∀ (m : Nat) (i : Nat) (w : sv), i + m = gT B ∧ w.1 = gn B ∧ w.2.1 = (gT B : Int) ∧ (∀ k : Int, 0 ≤ k → k < gn B → w.2.2.1 k = (h (o + 1)).2.2 k) ∧ (∀ k : Int, 0 ≤ k → k < gn B → w.2.2.2.1 k = gP B k) ∧ (∀ k : Int, 0 ≤ k → k < i → w.2.2.2.2.1 k = (h (o + 3)).2.2 k) ∧ (∀ k : Int, 0 ≤ k → k < i → w.2.2.2.2.2 k = (h (o + 4)).2.2 k) → mv_Ev sc 16 58 [(2, s), (2, o), (0, (i : Int))] [] c (sH h s w) (fun r c' h' => r = (3, 0) ∧ c' = c ∧ ∃ w, h' = sH h s w ∧ StV h w B) := by
  intro m
  induction m with
  | zero =>
    intro i w hi
    have hw0 := hw
    have ho0 := ho
    obtain ⟨s1, s2, t0, f0, f1, f2, f3, f4, ⟨t1, l1⟩, ⟨t2, l2⟩, ⟨t3, l3⟩, ⟨t4, l4⟩, hl0⟩ := hw
    obtain ⟨⟨o1, o2, u0, g0, g1, g2, g3, g4, ⟨u1, k1⟩, ⟨u2, k2⟩, ⟨u3, k3⟩, ⟨u4, k4⟩, hl1⟩, hB, y1, y2, y3, y4, y5, y6⟩ := ho
    have b1 := hB.1
    have b2 := hB.2.1
    have yp := fun (k : Int) (h0 : 0 ≤ k) (h1 : k < gn B) => (y3 k h0 h1).pos
    have yt := fun (k : Int) (h0 : 0 ≤ k) (h1 : k < gn B) => (y3 k h0 h1).tag
    have zp := fun (k : Int) (h0 : 0 ≤ k) (h1 : k < gT B) => (y5 k h0 h1).pos
    have zt := fun (k : Int) (h0 : 0 ≤ k) (h1 : k < gT B) => (y5 k h0 h1).tag
    obtain ⟨hi, w1, w2, w3, w4, w5, w6⟩ := hi
    have hK : (mv_m 16).1 = kc_State_copyFrom := rfl
    refine e_step (pc' := 59) hK rfl rfl rfl ?_
    refine e_step (pc' := 60) hK rfl rfl rfl ?_
    refine e_getI (ci := 2) (k := 6) (pc' := 63) hK rfl (by simp (disch := omega) only [sH_tg, sH_l1, sH_l2, sH_l3, sH_l4, sH_n5, sH_n6, sH_f0, sH_f1, sH_f2, sH_f3, sH_f4, sH_c1, sH_c2, sH_c3, sH_c4, sH_o, t0, f0, f1, f2, f3, f4, t1, l1, t2, l2, t3, l3, t4, l4, u0, g0, g1, g2, g3, g4, u1, k1, u2, k2, u3, k3, u4, k4, y1, y2, y4, yt, zt, w1, w2]) rfl rfl (by decide) (by decide) rfl ?_
    try simp (disch := omega) only [sH_tg, sH_l1, sH_l2, sH_l3, sH_l4, sH_n5, sH_n6, sH_f0, sH_f1, sH_f2, sH_f3, sH_f4, sH_c1, sH_c2, sH_c3, sH_c4, sH_o, t0, f0, f1, f2, f3, f4, t1, l1, t2, l2, t3, l3, t4, l4, u0, g0, g1, g2, g3, g4, u1, k1, u2, k2, u3, k3, u4, k4, y1, y2, y4, yt, zt, w1, w2]
    refine e_icmp (t := 96) (pc' := 66) hK rfl (by first | omega | exact yp _ (by omega) (by omega) | exact zp _ (by omega) (by omega)) (by first | omega | exact yp _ (by omega) (by omega) | exact zp _ (by omega) (by omega)) (by decide) rfl (fun hb63 => ?_) (fun hb63 => ?_)
    · replace hb63 := cq_ge.1.mp hb63
      refine e_ret hK rfl rfl rfl ?_
      refine ⟨rfl, rfl, w, rfl, hB, w1, w2, fun k h0 h1 => ?_, w4, fun k h0 h1 => ?_, fun k h0 h1 => ?_⟩
      · rw [w3 k h0 h1]; exact y3 k h0 h1
      · rw [w5 k h0 (by omega)]; exact y5 k h0 h1
      · rw [w6 k h0 (by omega)]; exact y6 k h0 h1
    · replace hb63 := cq_ge.2.mp hb63
      exfalso; first | omega | exact absurd trivial (by assumption) | (first | omega | exact yp _ (by omega) (by omega) | exact zp _ (by omega) (by omega))
  | succ m ih =>
    intro i w hi
    have hw0 := hw
    have ho0 := ho
    obtain ⟨s1, s2, t0, f0, f1, f2, f3, f4, ⟨t1, l1⟩, ⟨t2, l2⟩, ⟨t3, l3⟩, ⟨t4, l4⟩, hl0⟩ := hw
    obtain ⟨⟨o1, o2, u0, g0, g1, g2, g3, g4, ⟨u1, k1⟩, ⟨u2, k2⟩, ⟨u3, k3⟩, ⟨u4, k4⟩, hl1⟩, hB, y1, y2, y3, y4, y5, y6⟩ := ho
    have b1 := hB.1
    have b2 := hB.2.1
    have yp := fun (k : Int) (h0 : 0 ≤ k) (h1 : k < gn B) => (y3 k h0 h1).pos
    have yt := fun (k : Int) (h0 : 0 ≤ k) (h1 : k < gn B) => (y3 k h0 h1).tag
    have zp := fun (k : Int) (h0 : 0 ≤ k) (h1 : k < gT B) => (y5 k h0 h1).pos
    have zt := fun (k : Int) (h0 : 0 ≤ k) (h1 : k < gT B) => (y5 k h0 h1).tag
    obtain ⟨hi, w1, w2, w3, w4, w5, w6⟩ := hi
    have hK : (mv_m 16).1 = kc_State_copyFrom := rfl
    refine e_step (pc' := 59) hK rfl rfl rfl ?_
    refine e_step (pc' := 60) hK rfl rfl rfl ?_
    refine e_getI (ci := 2) (k := 6) (pc' := 63) hK rfl (by simp (disch := omega) only [sH_tg, sH_l1, sH_l2, sH_l3, sH_l4, sH_n5, sH_n6, sH_f0, sH_f1, sH_f2, sH_f3, sH_f4, sH_c1, sH_c2, sH_c3, sH_c4, sH_o, t0, f0, f1, f2, f3, f4, t1, l1, t2, l2, t3, l3, t4, l4, u0, g0, g1, g2, g3, g4, u1, k1, u2, k2, u3, k3, u4, k4, y1, y2, y4, yt, zt, w1, w2]) rfl rfl (by decide) (by decide) rfl ?_
    try simp (disch := omega) only [sH_tg, sH_l1, sH_l2, sH_l3, sH_l4, sH_n5, sH_n6, sH_f0, sH_f1, sH_f2, sH_f3, sH_f4, sH_c1, sH_c2, sH_c3, sH_c4, sH_o, t0, f0, f1, f2, f3, f4, t1, l1, t2, l2, t3, l3, t4, l4, u0, g0, g1, g2, g3, g4, u1, k1, u2, k2, u3, k3, u4, k4, y1, y2, y4, yt, zt, w1, w2]
    refine e_icmp (t := 96) (pc' := 66) hK rfl (by first | omega | exact yp _ (by omega) (by omega) | exact zp _ (by omega) (by omega)) (by first | omega | exact yp _ (by omega) (by omega) | exact zp _ (by omega) (by omega)) (by decide) rfl (fun hb63 => ?_) (fun hb63 => ?_)
    · replace hb63 := cq_ge.1.mp hb63
      exfalso; first | omega | exact absurd trivial (by assumption) | (first | omega | exact yp _ (by omega) (by omega) | exact zp _ (by omega) (by omega))
    · replace hb63 := cq_ge.2.mp hb63
      refine e_step (pc' := 67) hK rfl rfl rfl ?_
      refine e_getR (ci := 2) (k := 3) (pc' := 70) hK rfl (by simp (disch := omega) only [sH_tg, sH_l1, sH_l2, sH_l3, sH_l4, sH_n5, sH_n6, sH_f0, sH_f1, sH_f2, sH_f3, sH_f4, sH_c1, sH_c2, sH_c3, sH_c4, sH_o, t0, f0, f1, f2, f3, f4, t1, l1, t2, l2, t3, l3, t4, l4, u0, g0, g1, g2, g3, g4, u1, k1, u2, k2, u3, k3, u4, k4, y1, y2, y4, yt, zt, w1, w2]) rfl rfl (by decide) (by decide) (by (try simp (disch := omega) only [sH_tg, sH_l1, sH_l2, sH_l3, sH_l4, sH_n5, sH_n6, sH_f0, sH_f1, sH_f2, sH_f3, sH_f4, sH_c1, sH_c2, sH_c3, sH_c4, sH_o, t0, f0, f1, f2, f3, f4, t1, l1, t2, l2, t3, l3, t4, l4, u0, g0, g1, g2, g3, g4, u1, k1, u2, k2, u3, k3, u4, k4, y1, y2, y4, yt, zt, w1, w2]); first | omega | exact yp _ (by omega) (by omega) | exact zp _ (by omega) (by omega)) rfl ?_
      try simp (disch := omega) only [sH_tg, sH_l1, sH_l2, sH_l3, sH_l4, sH_n5, sH_n6, sH_f0, sH_f1, sH_f2, sH_f3, sH_f4, sH_c1, sH_c2, sH_c3, sH_c4, sH_o, t0, f0, f1, f2, f3, f4, t1, l1, t2, l2, t3, l3, t4, l4, u0, g0, g1, g2, g3, g4, u1, k1, u2, k2, u3, k3, u4, k4, y1, y2, y4, yt, zt, w1, w2]
      refine e_step (pc' := 71) hK rfl rfl rfl ?_
      refine e_step (pc' := 72) hK rfl rfl rfl ?_
      refine e_getR (ci := 2) (k := 3) (pc' := 75) hK rfl (by simp (disch := omega) only [sH_tg, sH_l1, sH_l2, sH_l3, sH_l4, sH_n5, sH_n6, sH_f0, sH_f1, sH_f2, sH_f3, sH_f4, sH_c1, sH_c2, sH_c3, sH_c4, sH_o, t0, f0, f1, f2, f3, f4, t1, l1, t2, l2, t3, l3, t4, l4, u0, g0, g1, g2, g3, g4, u1, k1, u2, k2, u3, k3, u4, k4, y1, y2, y4, yt, zt, w1, w2]) rfl rfl (by decide) (by decide) (by (try simp (disch := omega) only [sH_tg, sH_l1, sH_l2, sH_l3, sH_l4, sH_n5, sH_n6, sH_f0, sH_f1, sH_f2, sH_f3, sH_f4, sH_c1, sH_c2, sH_c3, sH_c4, sH_o, t0, f0, f1, f2, f3, f4, t1, l1, t2, l2, t3, l3, t4, l4, u0, g0, g1, g2, g3, g4, u1, k1, u2, k2, u3, k3, u4, k4, y1, y2, y4, yt, zt, w1, w2]); first | omega | exact yp _ (by omega) (by omega) | exact zp _ (by omega) (by omega)) rfl ?_
      try simp (disch := omega) only [sH_tg, sH_l1, sH_l2, sH_l3, sH_l4, sH_n5, sH_n6, sH_f0, sH_f1, sH_f2, sH_f3, sH_f4, sH_c1, sH_c2, sH_c3, sH_c4, sH_o, t0, f0, f1, f2, f3, f4, t1, l1, t2, l2, t3, l3, t4, l4, u0, g0, g1, g2, g3, g4, u1, k1, u2, k2, u3, k3, u4, k4, y1, y2, y4, yt, zt, w1, w2]
      refine e_step (pc' := 76) hK rfl rfl rfl ?_
      refine e_aald (pc' := 77) hK rfl (by simp (disch := omega) only [sH_tg, sH_l1, sH_l2, sH_l3, sH_l4, sH_n5, sH_n6, sH_f0, sH_f1, sH_f2, sH_f3, sH_f4, sH_c1, sH_c2, sH_c3, sH_c4, sH_o, t0, f0, f1, f2, f3, f4, t1, l1, t2, l2, t3, l3, t4, l4, u0, g0, g1, g2, g3, g4, u1, k1, u2, k2, u3, k3, u4, k4, y1, y2, y4, yt, zt, w1, w2]; decide) (by first | omega | exact yp _ (by omega) (by omega) | exact zp _ (by omega) (by omega)) (by (try simp (disch := omega) only [sH_tg, sH_l1, sH_l2, sH_l3, sH_l4, sH_n5, sH_n6, sH_f0, sH_f1, sH_f2, sH_f3, sH_f4, sH_c1, sH_c2, sH_c3, sH_c4, sH_o, t0, f0, f1, f2, f3, f4, t1, l1, t2, l2, t3, l3, t4, l4, u0, g0, g1, g2, g3, g4, u1, k1, u2, k2, u3, k3, u4, k4, y1, y2, y4, yt, zt, w1, w2]); first | omega | exact yp _ (by omega) (by omega) | exact zp _ (by omega) (by omega)) (by (try simp (disch := omega) only [sH_tg, sH_l1, sH_l2, sH_l3, sH_l4, sH_n5, sH_n6, sH_f0, sH_f1, sH_f2, sH_f3, sH_f4, sH_c1, sH_c2, sH_c3, sH_c4, sH_o, t0, f0, f1, f2, f3, f4, t1, l1, t2, l2, t3, l3, t4, l4, u0, g0, g1, g2, g3, g4, u1, k1, u2, k2, u3, k3, u4, k4, y1, y2, y4, yt, zt, w1, w2]); first | omega | exact yp _ (by omega) (by omega) | exact zp _ (by omega) (by omega)) rfl ?_
      try simp (disch := omega) only [sH_tg, sH_l1, sH_l2, sH_l3, sH_l4, sH_n5, sH_n6, sH_f0, sH_f1, sH_f2, sH_f3, sH_f4, sH_c1, sH_c2, sH_c3, sH_c4, sH_o, t0, f0, f1, f2, f3, f4, t1, l1, t2, l2, t3, l3, t4, l4, u0, g0, g1, g2, g3, g4, u1, k1, u2, k2, u3, k3, u4, k4, y1, y2, y4, yt, zt, w1, w2]
      refine e_aast (pc' := 78) hK rfl (by simp (disch := omega) only [sH_tg, sH_l1, sH_l2, sH_l3, sH_l4, sH_n5, sH_n6, sH_f0, sH_f1, sH_f2, sH_f3, sH_f4, sH_c1, sH_c2, sH_c3, sH_c4, sH_o, t0, f0, f1, f2, f3, f4, t1, l1, t2, l2, t3, l3, t4, l4, u0, g0, g1, g2, g3, g4, u1, k1, u2, k2, u3, k3, u4, k4, y1, y2, y4, yt, zt, w1, w2]; decide) (by first | omega | exact yp _ (by omega) (by omega) | exact zp _ (by omega) (by omega)) (by (try simp (disch := omega) only [sH_tg, sH_l1, sH_l2, sH_l3, sH_l4, sH_n5, sH_n6, sH_f0, sH_f1, sH_f2, sH_f3, sH_f4, sH_c1, sH_c2, sH_c3, sH_c4, sH_o, t0, f0, f1, f2, f3, f4, t1, l1, t2, l2, t3, l3, t4, l4, u0, g0, g1, g2, g3, g4, u1, k1, u2, k2, u3, k3, u4, k4, y1, y2, y4, yt, zt, w1, w2]); first | omega | exact yp _ (by omega) (by omega) | exact zp _ (by omega) (by omega)) rfl ?_
      simp only [sW_5, sW_6, sW_1, sW_2, sW_3, sW_4]
      refine e_step (pc' := 79) hK rfl rfl rfl ?_
      refine e_getR (ci := 2) (k := 4) (pc' := 82) hK rfl (by simp (disch := omega) only [sH_tg, sH_l1, sH_l2, sH_l3, sH_l4, sH_n5, sH_n6, sH_f0, sH_f1, sH_f2, sH_f3, sH_f4, sH_c1, sH_c2, sH_c3, sH_c4, sH_o, t0, f0, f1, f2, f3, f4, t1, l1, t2, l2, t3, l3, t4, l4, u0, g0, g1, g2, g3, g4, u1, k1, u2, k2, u3, k3, u4, k4, y1, y2, y4, yt, zt, w1, w2]) rfl rfl (by decide) (by decide) (by (try simp (disch := omega) only [sH_tg, sH_l1, sH_l2, sH_l3, sH_l4, sH_n5, sH_n6, sH_f0, sH_f1, sH_f2, sH_f3, sH_f4, sH_c1, sH_c2, sH_c3, sH_c4, sH_o, t0, f0, f1, f2, f3, f4, t1, l1, t2, l2, t3, l3, t4, l4, u0, g0, g1, g2, g3, g4, u1, k1, u2, k2, u3, k3, u4, k4, y1, y2, y4, yt, zt, w1, w2]); first | omega | exact yp _ (by omega) (by omega) | exact zp _ (by omega) (by omega)) rfl ?_
      try simp (disch := omega) only [sH_tg, sH_l1, sH_l2, sH_l3, sH_l4, sH_n5, sH_n6, sH_f0, sH_f1, sH_f2, sH_f3, sH_f4, sH_c1, sH_c2, sH_c3, sH_c4, sH_o, t0, f0, f1, f2, f3, f4, t1, l1, t2, l2, t3, l3, t4, l4, u0, g0, g1, g2, g3, g4, u1, k1, u2, k2, u3, k3, u4, k4, y1, y2, y4, yt, zt, w1, w2]
      refine e_step (pc' := 83) hK rfl rfl rfl ?_
      refine e_step (pc' := 84) hK rfl rfl rfl ?_
      refine e_getR (ci := 2) (k := 4) (pc' := 87) hK rfl (by simp (disch := omega) only [sH_tg, sH_l1, sH_l2, sH_l3, sH_l4, sH_n5, sH_n6, sH_f0, sH_f1, sH_f2, sH_f3, sH_f4, sH_c1, sH_c2, sH_c3, sH_c4, sH_o, t0, f0, f1, f2, f3, f4, t1, l1, t2, l2, t3, l3, t4, l4, u0, g0, g1, g2, g3, g4, u1, k1, u2, k2, u3, k3, u4, k4, y1, y2, y4, yt, zt, w1, w2]) rfl rfl (by decide) (by decide) (by (try simp (disch := omega) only [sH_tg, sH_l1, sH_l2, sH_l3, sH_l4, sH_n5, sH_n6, sH_f0, sH_f1, sH_f2, sH_f3, sH_f4, sH_c1, sH_c2, sH_c3, sH_c4, sH_o, t0, f0, f1, f2, f3, f4, t1, l1, t2, l2, t3, l3, t4, l4, u0, g0, g1, g2, g3, g4, u1, k1, u2, k2, u3, k3, u4, k4, y1, y2, y4, yt, zt, w1, w2]); first | omega | exact yp _ (by omega) (by omega) | exact zp _ (by omega) (by omega)) rfl ?_
      try simp (disch := omega) only [sH_tg, sH_l1, sH_l2, sH_l3, sH_l4, sH_n5, sH_n6, sH_f0, sH_f1, sH_f2, sH_f3, sH_f4, sH_c1, sH_c2, sH_c3, sH_c4, sH_o, t0, f0, f1, f2, f3, f4, t1, l1, t2, l2, t3, l3, t4, l4, u0, g0, g1, g2, g3, g4, u1, k1, u2, k2, u3, k3, u4, k4, y1, y2, y4, yt, zt, w1, w2]
      refine e_step (pc' := 88) hK rfl rfl rfl ?_
      refine e_iald (pc' := 89) hK rfl (by simp (disch := omega) only [sH_tg, sH_l1, sH_l2, sH_l3, sH_l4, sH_n5, sH_n6, sH_f0, sH_f1, sH_f2, sH_f3, sH_f4, sH_c1, sH_c2, sH_c3, sH_c4, sH_o, t0, f0, f1, f2, f3, f4, t1, l1, t2, l2, t3, l3, t4, l4, u0, g0, g1, g2, g3, g4, u1, k1, u2, k2, u3, k3, u4, k4, y1, y2, y4, yt, zt, w1, w2]) (by first | omega | exact yp _ (by omega) (by omega) | exact zp _ (by omega) (by omega)) (by (try simp (disch := omega) only [sH_tg, sH_l1, sH_l2, sH_l3, sH_l4, sH_n5, sH_n6, sH_f0, sH_f1, sH_f2, sH_f3, sH_f4, sH_c1, sH_c2, sH_c3, sH_c4, sH_o, t0, f0, f1, f2, f3, f4, t1, l1, t2, l2, t3, l3, t4, l4, u0, g0, g1, g2, g3, g4, u1, k1, u2, k2, u3, k3, u4, k4, y1, y2, y4, yt, zt, w1, w2]); first | omega | exact yp _ (by omega) (by omega) | exact zp _ (by omega) (by omega)) rfl ?_
      try simp (disch := omega) only [sH_tg, sH_l1, sH_l2, sH_l3, sH_l4, sH_n5, sH_n6, sH_f0, sH_f1, sH_f2, sH_f3, sH_f4, sH_c1, sH_c2, sH_c3, sH_c4, sH_o, t0, f0, f1, f2, f3, f4, t1, l1, t2, l2, t3, l3, t4, l4, u0, g0, g1, g2, g3, g4, u1, k1, u2, k2, u3, k3, u4, k4, y1, y2, y4, yt, zt, w1, w2]
      refine e_iast (pc' := 90) hK rfl (by simp (disch := omega) only [sH_tg, sH_l1, sH_l2, sH_l3, sH_l4, sH_n5, sH_n6, sH_f0, sH_f1, sH_f2, sH_f3, sH_f4, sH_c1, sH_c2, sH_c3, sH_c4, sH_o, t0, f0, f1, f2, f3, f4, t1, l1, t2, l2, t3, l3, t4, l4, u0, g0, g1, g2, g3, g4, u1, k1, u2, k2, u3, k3, u4, k4, y1, y2, y4, yt, zt, w1, w2]) (by first | omega | exact yp _ (by omega) (by omega) | exact zp _ (by omega) (by omega)) (by (try simp (disch := omega) only [sH_tg, sH_l1, sH_l2, sH_l3, sH_l4, sH_n5, sH_n6, sH_f0, sH_f1, sH_f2, sH_f3, sH_f4, sH_c1, sH_c2, sH_c3, sH_c4, sH_o, t0, f0, f1, f2, f3, f4, t1, l1, t2, l2, t3, l3, t4, l4, u0, g0, g1, g2, g3, g4, u1, k1, u2, k2, u3, k3, u4, k4, y1, y2, y4, yt, zt, w1, w2]); first | omega | exact yp _ (by omega) (by omega) | exact zp _ (by omega) (by omega)) rfl ?_
      simp only [sW_5, sW_6, sW_1, sW_2, sW_3, sW_4]
      refine e_step (pc' := 93) hK rfl rfl rfl ?_
      try simp only [List.set_cons_zero, List.set_cons_succ]
      refine e_goto (t := 58) hK rfl (by decide) ?_
      exact ih (i + 1) _ ⟨by omega, by first | exact w1 | rfl, by first | exact w2 | rfl, w3, w4, (fun k h0 h1 => by { show mv_up _ _ _ k = _; unfold mv_up; by_cases hk : k = i; { rw [if_pos hk, hk]; try rfl }; { rw [if_neg hk]; exact w5 k h0 (by omega) } }), (fun k h0 h1 => by { show mv_up _ _ _ k = _; unfold mv_up; by_cases hk : k = i; { rw [if_pos hk, hk]; try rfl }; { rw [if_neg hk]; exact w6 k h0 (by omega) } })⟩
set_option maxRecDepth 10000 in
theorem c_copy1 {s o : Int} {B : lg} (hw : StW h s) (ho : StA h o B) (hd : s + 5 ≤ o ∨ o + 5 ≤ s) : ∀ (m : Nat) (i : Nat) (w : sv), i + m = gn B ∧ w.1 = gn B ∧ w.2.1 = (gT B : Int) ∧ (∀ k : Int, 0 ≤ k → k < i → w.2.2.1 k = (h (o + 1)).2.2 k) ∧ (∀ k : Int, 0 ≤ k → k < i → w.2.2.2.1 k = gP B k) → mv_Ev sc 16 18 [(2, s), (2, o), (0, (i : Int))] [] c (sH h s w) (fun r c' h' => r = (3, 0) ∧ c' = c ∧ ∃ w, h' = sH h s w ∧ StV h w B) := by
  intro m
  induction m with
  | zero =>
    intro i w hi
    have hw0 := hw
    have ho0 := ho
    obtain ⟨s1, s2, t0, f0, f1, f2, f3, f4, ⟨t1, l1⟩, ⟨t2, l2⟩, ⟨t3, l3⟩, ⟨t4, l4⟩, hl0⟩ := hw
    obtain ⟨⟨o1, o2, u0, g0, g1, g2, g3, g4, ⟨u1, k1⟩, ⟨u2, k2⟩, ⟨u3, k3⟩, ⟨u4, k4⟩, hl1⟩, hB, y1, y2, y3, y4, y5, y6⟩ := ho
    have b1 := hB.1
    have b2 := hB.2.1
    have yp := fun (k : Int) (h0 : 0 ≤ k) (h1 : k < gn B) => (y3 k h0 h1).pos
    have yt := fun (k : Int) (h0 : 0 ≤ k) (h1 : k < gn B) => (y3 k h0 h1).tag
    have zp := fun (k : Int) (h0 : 0 ≤ k) (h1 : k < gT B) => (y5 k h0 h1).pos
    have zt := fun (k : Int) (h0 : 0 ≤ k) (h1 : k < gT B) => (y5 k h0 h1).tag
    obtain ⟨hi, w1, w2, w3, w4⟩ := hi
    have hK : (mv_m 16).1 = kc_State_copyFrom := rfl
    refine e_step (pc' := 19) hK rfl rfl rfl ?_
    refine e_step (pc' := 20) hK rfl rfl rfl ?_
    refine e_getI (ci := 2) (k := 5) (pc' := 23) hK rfl (by simp (disch := omega) only [sH_tg, sH_l1, sH_l2, sH_l3, sH_l4, sH_n5, sH_n6, sH_f0, sH_f1, sH_f2, sH_f3, sH_f4, sH_c1, sH_c2, sH_c3, sH_c4, sH_o, t0, f0, f1, f2, f3, f4, t1, l1, t2, l2, t3, l3, t4, l4, u0, g0, g1, g2, g3, g4, u1, k1, u2, k2, u3, k3, u4, k4, y1, y2, y4, yt, zt, w1, w2]) rfl rfl (by decide) (by decide) rfl ?_
    try simp (disch := omega) only [sH_tg, sH_l1, sH_l2, sH_l3, sH_l4, sH_n5, sH_n6, sH_f0, sH_f1, sH_f2, sH_f3, sH_f4, sH_c1, sH_c2, sH_c3, sH_c4, sH_o, t0, f0, f1, f2, f3, f4, t1, l1, t2, l2, t3, l3, t4, l4, u0, g0, g1, g2, g3, g4, u1, k1, u2, k2, u3, k3, u4, k4, y1, y2, y4, yt, zt, w1, w2]
    refine e_icmp (t := 56) (pc' := 26) hK rfl (by first | omega | exact yp _ (by omega) (by omega) | exact zp _ (by omega) (by omega)) (by first | omega | exact yp _ (by omega) (by omega) | exact zp _ (by omega) (by omega)) (by decide) rfl (fun hb23 => ?_) (fun hb23 => ?_)
    · replace hb23 := cq_ge.1.mp hb23
      refine e_step (pc' := 57) hK rfl rfl rfl ?_
      refine e_step (pc' := 58) hK rfl rfl rfl ?_
      try simp only [List.set_cons_zero, List.set_cons_succ]
      exact c_copy2 hw0 ho0 hd (gT B) 0 w ⟨by omega, w1, w2, fun k h0 h1 => w3 k h0 (by omega), fun k h0 h1 => w4 k h0 (by omega), fun k h0 h1 => by omega, fun k h0 h1 => by omega⟩
    · replace hb23 := cq_ge.2.mp hb23
      exfalso; first | omega | exact absurd trivial (by assumption) | (first | omega | exact yp _ (by omega) (by omega) | exact zp _ (by omega) (by omega))
  | succ m ih =>
    intro i w hi
    have hw0 := hw
    have ho0 := ho
    obtain ⟨s1, s2, t0, f0, f1, f2, f3, f4, ⟨t1, l1⟩, ⟨t2, l2⟩, ⟨t3, l3⟩, ⟨t4, l4⟩, hl0⟩ := hw
    obtain ⟨⟨o1, o2, u0, g0, g1, g2, g3, g4, ⟨u1, k1⟩, ⟨u2, k2⟩, ⟨u3, k3⟩, ⟨u4, k4⟩, hl1⟩, hB, y1, y2, y3, y4, y5, y6⟩ := ho
    have b1 := hB.1
    have b2 := hB.2.1
    have yp := fun (k : Int) (h0 : 0 ≤ k) (h1 : k < gn B) => (y3 k h0 h1).pos
    have yt := fun (k : Int) (h0 : 0 ≤ k) (h1 : k < gn B) => (y3 k h0 h1).tag
    have zp := fun (k : Int) (h0 : 0 ≤ k) (h1 : k < gT B) => (y5 k h0 h1).pos
    have zt := fun (k : Int) (h0 : 0 ≤ k) (h1 : k < gT B) => (y5 k h0 h1).tag
    obtain ⟨hi, w1, w2, w3, w4⟩ := hi
    have hK : (mv_m 16).1 = kc_State_copyFrom := rfl
    refine e_step (pc' := 19) hK rfl rfl rfl ?_
    refine e_step (pc' := 20) hK rfl rfl rfl ?_
    refine e_getI (ci := 2) (k := 5) (pc' := 23) hK rfl (by simp (disch := omega) only [sH_tg, sH_l1, sH_l2, sH_l3, sH_l4, sH_n5, sH_n6, sH_f0, sH_f1, sH_f2, sH_f3, sH_f4, sH_c1, sH_c2, sH_c3, sH_c4, sH_o, t0, f0, f1, f2, f3, f4, t1, l1, t2, l2, t3, l3, t4, l4, u0, g0, g1, g2, g3, g4, u1, k1, u2, k2, u3, k3, u4, k4, y1, y2, y4, yt, zt, w1, w2]) rfl rfl (by decide) (by decide) rfl ?_
    try simp (disch := omega) only [sH_tg, sH_l1, sH_l2, sH_l3, sH_l4, sH_n5, sH_n6, sH_f0, sH_f1, sH_f2, sH_f3, sH_f4, sH_c1, sH_c2, sH_c3, sH_c4, sH_o, t0, f0, f1, f2, f3, f4, t1, l1, t2, l2, t3, l3, t4, l4, u0, g0, g1, g2, g3, g4, u1, k1, u2, k2, u3, k3, u4, k4, y1, y2, y4, yt, zt, w1, w2]
    refine e_icmp (t := 56) (pc' := 26) hK rfl (by first | omega | exact yp _ (by omega) (by omega) | exact zp _ (by omega) (by omega)) (by first | omega | exact yp _ (by omega) (by omega) | exact zp _ (by omega) (by omega)) (by decide) rfl (fun hb23 => ?_) (fun hb23 => ?_)
    · replace hb23 := cq_ge.1.mp hb23
      exfalso; first | omega | exact absurd trivial (by assumption) | (first | omega | exact yp _ (by omega) (by omega) | exact zp _ (by omega) (by omega))
    · replace hb23 := cq_ge.2.mp hb23
      refine e_step (pc' := 27) hK rfl rfl rfl ?_
      refine e_getR (ci := 2) (k := 1) (pc' := 30) hK rfl (by simp (disch := omega) only [sH_tg, sH_l1, sH_l2, sH_l3, sH_l4, sH_n5, sH_n6, sH_f0, sH_f1, sH_f2, sH_f3, sH_f4, sH_c1, sH_c2, sH_c3, sH_c4, sH_o, t0, f0, f1, f2, f3, f4, t1, l1, t2, l2, t3, l3, t4, l4, u0, g0, g1, g2, g3, g4, u1, k1, u2, k2, u3, k3, u4, k4, y1, y2, y4, yt, zt, w1, w2]) rfl rfl (by decide) (by decide) (by (try simp (disch := omega) only [sH_tg, sH_l1, sH_l2, sH_l3, sH_l4, sH_n5, sH_n6, sH_f0, sH_f1, sH_f2, sH_f3, sH_f4, sH_c1, sH_c2, sH_c3, sH_c4, sH_o, t0, f0, f1, f2, f3, f4, t1, l1, t2, l2, t3, l3, t4, l4, u0, g0, g1, g2, g3, g4, u1, k1, u2, k2, u3, k3, u4, k4, y1, y2, y4, yt, zt, w1, w2]); first | omega | exact yp _ (by omega) (by omega) | exact zp _ (by omega) (by omega)) rfl ?_
      try simp (disch := omega) only [sH_tg, sH_l1, sH_l2, sH_l3, sH_l4, sH_n5, sH_n6, sH_f0, sH_f1, sH_f2, sH_f3, sH_f4, sH_c1, sH_c2, sH_c3, sH_c4, sH_o, t0, f0, f1, f2, f3, f4, t1, l1, t2, l2, t3, l3, t4, l4, u0, g0, g1, g2, g3, g4, u1, k1, u2, k2, u3, k3, u4, k4, y1, y2, y4, yt, zt, w1, w2]
      refine e_step (pc' := 31) hK rfl rfl rfl ?_
      refine e_step (pc' := 32) hK rfl rfl rfl ?_
      refine e_getR (ci := 2) (k := 1) (pc' := 35) hK rfl (by simp (disch := omega) only [sH_tg, sH_l1, sH_l2, sH_l3, sH_l4, sH_n5, sH_n6, sH_f0, sH_f1, sH_f2, sH_f3, sH_f4, sH_c1, sH_c2, sH_c3, sH_c4, sH_o, t0, f0, f1, f2, f3, f4, t1, l1, t2, l2, t3, l3, t4, l4, u0, g0, g1, g2, g3, g4, u1, k1, u2, k2, u3, k3, u4, k4, y1, y2, y4, yt, zt, w1, w2]) rfl rfl (by decide) (by decide) (by (try simp (disch := omega) only [sH_tg, sH_l1, sH_l2, sH_l3, sH_l4, sH_n5, sH_n6, sH_f0, sH_f1, sH_f2, sH_f3, sH_f4, sH_c1, sH_c2, sH_c3, sH_c4, sH_o, t0, f0, f1, f2, f3, f4, t1, l1, t2, l2, t3, l3, t4, l4, u0, g0, g1, g2, g3, g4, u1, k1, u2, k2, u3, k3, u4, k4, y1, y2, y4, yt, zt, w1, w2]); first | omega | exact yp _ (by omega) (by omega) | exact zp _ (by omega) (by omega)) rfl ?_
      try simp (disch := omega) only [sH_tg, sH_l1, sH_l2, sH_l3, sH_l4, sH_n5, sH_n6, sH_f0, sH_f1, sH_f2, sH_f3, sH_f4, sH_c1, sH_c2, sH_c3, sH_c4, sH_o, t0, f0, f1, f2, f3, f4, t1, l1, t2, l2, t3, l3, t4, l4, u0, g0, g1, g2, g3, g4, u1, k1, u2, k2, u3, k3, u4, k4, y1, y2, y4, yt, zt, w1, w2]
      refine e_step (pc' := 36) hK rfl rfl rfl ?_
      refine e_aald (pc' := 37) hK rfl (by simp (disch := omega) only [sH_tg, sH_l1, sH_l2, sH_l3, sH_l4, sH_n5, sH_n6, sH_f0, sH_f1, sH_f2, sH_f3, sH_f4, sH_c1, sH_c2, sH_c3, sH_c4, sH_o, t0, f0, f1, f2, f3, f4, t1, l1, t2, l2, t3, l3, t4, l4, u0, g0, g1, g2, g3, g4, u1, k1, u2, k2, u3, k3, u4, k4, y1, y2, y4, yt, zt, w1, w2]; decide) (by first | omega | exact yp _ (by omega) (by omega) | exact zp _ (by omega) (by omega)) (by (try simp (disch := omega) only [sH_tg, sH_l1, sH_l2, sH_l3, sH_l4, sH_n5, sH_n6, sH_f0, sH_f1, sH_f2, sH_f3, sH_f4, sH_c1, sH_c2, sH_c3, sH_c4, sH_o, t0, f0, f1, f2, f3, f4, t1, l1, t2, l2, t3, l3, t4, l4, u0, g0, g1, g2, g3, g4, u1, k1, u2, k2, u3, k3, u4, k4, y1, y2, y4, yt, zt, w1, w2]); first | omega | exact yp _ (by omega) (by omega) | exact zp _ (by omega) (by omega)) (by (try simp (disch := omega) only [sH_tg, sH_l1, sH_l2, sH_l3, sH_l4, sH_n5, sH_n6, sH_f0, sH_f1, sH_f2, sH_f3, sH_f4, sH_c1, sH_c2, sH_c3, sH_c4, sH_o, t0, f0, f1, f2, f3, f4, t1, l1, t2, l2, t3, l3, t4, l4, u0, g0, g1, g2, g3, g4, u1, k1, u2, k2, u3, k3, u4, k4, y1, y2, y4, yt, zt, w1, w2]); first | omega | exact yp _ (by omega) (by omega) | exact zp _ (by omega) (by omega)) rfl ?_
      try simp (disch := omega) only [sH_tg, sH_l1, sH_l2, sH_l3, sH_l4, sH_n5, sH_n6, sH_f0, sH_f1, sH_f2, sH_f3, sH_f4, sH_c1, sH_c2, sH_c3, sH_c4, sH_o, t0, f0, f1, f2, f3, f4, t1, l1, t2, l2, t3, l3, t4, l4, u0, g0, g1, g2, g3, g4, u1, k1, u2, k2, u3, k3, u4, k4, y1, y2, y4, yt, zt, w1, w2]
      refine e_aast (pc' := 38) hK rfl (by simp (disch := omega) only [sH_tg, sH_l1, sH_l2, sH_l3, sH_l4, sH_n5, sH_n6, sH_f0, sH_f1, sH_f2, sH_f3, sH_f4, sH_c1, sH_c2, sH_c3, sH_c4, sH_o, t0, f0, f1, f2, f3, f4, t1, l1, t2, l2, t3, l3, t4, l4, u0, g0, g1, g2, g3, g4, u1, k1, u2, k2, u3, k3, u4, k4, y1, y2, y4, yt, zt, w1, w2]; decide) (by first | omega | exact yp _ (by omega) (by omega) | exact zp _ (by omega) (by omega)) (by (try simp (disch := omega) only [sH_tg, sH_l1, sH_l2, sH_l3, sH_l4, sH_n5, sH_n6, sH_f0, sH_f1, sH_f2, sH_f3, sH_f4, sH_c1, sH_c2, sH_c3, sH_c4, sH_o, t0, f0, f1, f2, f3, f4, t1, l1, t2, l2, t3, l3, t4, l4, u0, g0, g1, g2, g3, g4, u1, k1, u2, k2, u3, k3, u4, k4, y1, y2, y4, yt, zt, w1, w2]); first | omega | exact yp _ (by omega) (by omega) | exact zp _ (by omega) (by omega)) rfl ?_
      simp only [sW_5, sW_6, sW_1, sW_2, sW_3, sW_4]
      refine e_step (pc' := 39) hK rfl rfl rfl ?_
      refine e_getR (ci := 2) (k := 2) (pc' := 42) hK rfl (by simp (disch := omega) only [sH_tg, sH_l1, sH_l2, sH_l3, sH_l4, sH_n5, sH_n6, sH_f0, sH_f1, sH_f2, sH_f3, sH_f4, sH_c1, sH_c2, sH_c3, sH_c4, sH_o, t0, f0, f1, f2, f3, f4, t1, l1, t2, l2, t3, l3, t4, l4, u0, g0, g1, g2, g3, g4, u1, k1, u2, k2, u3, k3, u4, k4, y1, y2, y4, yt, zt, w1, w2]) rfl rfl (by decide) (by decide) (by (try simp (disch := omega) only [sH_tg, sH_l1, sH_l2, sH_l3, sH_l4, sH_n5, sH_n6, sH_f0, sH_f1, sH_f2, sH_f3, sH_f4, sH_c1, sH_c2, sH_c3, sH_c4, sH_o, t0, f0, f1, f2, f3, f4, t1, l1, t2, l2, t3, l3, t4, l4, u0, g0, g1, g2, g3, g4, u1, k1, u2, k2, u3, k3, u4, k4, y1, y2, y4, yt, zt, w1, w2]); first | omega | exact yp _ (by omega) (by omega) | exact zp _ (by omega) (by omega)) rfl ?_
      try simp (disch := omega) only [sH_tg, sH_l1, sH_l2, sH_l3, sH_l4, sH_n5, sH_n6, sH_f0, sH_f1, sH_f2, sH_f3, sH_f4, sH_c1, sH_c2, sH_c3, sH_c4, sH_o, t0, f0, f1, f2, f3, f4, t1, l1, t2, l2, t3, l3, t4, l4, u0, g0, g1, g2, g3, g4, u1, k1, u2, k2, u3, k3, u4, k4, y1, y2, y4, yt, zt, w1, w2]
      refine e_step (pc' := 43) hK rfl rfl rfl ?_
      refine e_step (pc' := 44) hK rfl rfl rfl ?_
      refine e_getR (ci := 2) (k := 2) (pc' := 47) hK rfl (by simp (disch := omega) only [sH_tg, sH_l1, sH_l2, sH_l3, sH_l4, sH_n5, sH_n6, sH_f0, sH_f1, sH_f2, sH_f3, sH_f4, sH_c1, sH_c2, sH_c3, sH_c4, sH_o, t0, f0, f1, f2, f3, f4, t1, l1, t2, l2, t3, l3, t4, l4, u0, g0, g1, g2, g3, g4, u1, k1, u2, k2, u3, k3, u4, k4, y1, y2, y4, yt, zt, w1, w2]) rfl rfl (by decide) (by decide) (by (try simp (disch := omega) only [sH_tg, sH_l1, sH_l2, sH_l3, sH_l4, sH_n5, sH_n6, sH_f0, sH_f1, sH_f2, sH_f3, sH_f4, sH_c1, sH_c2, sH_c3, sH_c4, sH_o, t0, f0, f1, f2, f3, f4, t1, l1, t2, l2, t3, l3, t4, l4, u0, g0, g1, g2, g3, g4, u1, k1, u2, k2, u3, k3, u4, k4, y1, y2, y4, yt, zt, w1, w2]); first | omega | exact yp _ (by omega) (by omega) | exact zp _ (by omega) (by omega)) rfl ?_
      try simp (disch := omega) only [sH_tg, sH_l1, sH_l2, sH_l3, sH_l4, sH_n5, sH_n6, sH_f0, sH_f1, sH_f2, sH_f3, sH_f4, sH_c1, sH_c2, sH_c3, sH_c4, sH_o, t0, f0, f1, f2, f3, f4, t1, l1, t2, l2, t3, l3, t4, l4, u0, g0, g1, g2, g3, g4, u1, k1, u2, k2, u3, k3, u4, k4, y1, y2, y4, yt, zt, w1, w2]
      refine e_step (pc' := 48) hK rfl rfl rfl ?_
      refine e_iald (pc' := 49) hK rfl (by simp (disch := omega) only [sH_tg, sH_l1, sH_l2, sH_l3, sH_l4, sH_n5, sH_n6, sH_f0, sH_f1, sH_f2, sH_f3, sH_f4, sH_c1, sH_c2, sH_c3, sH_c4, sH_o, t0, f0, f1, f2, f3, f4, t1, l1, t2, l2, t3, l3, t4, l4, u0, g0, g1, g2, g3, g4, u1, k1, u2, k2, u3, k3, u4, k4, y1, y2, y4, yt, zt, w1, w2]) (by first | omega | exact yp _ (by omega) (by omega) | exact zp _ (by omega) (by omega)) (by (try simp (disch := omega) only [sH_tg, sH_l1, sH_l2, sH_l3, sH_l4, sH_n5, sH_n6, sH_f0, sH_f1, sH_f2, sH_f3, sH_f4, sH_c1, sH_c2, sH_c3, sH_c4, sH_o, t0, f0, f1, f2, f3, f4, t1, l1, t2, l2, t3, l3, t4, l4, u0, g0, g1, g2, g3, g4, u1, k1, u2, k2, u3, k3, u4, k4, y1, y2, y4, yt, zt, w1, w2]); first | omega | exact yp _ (by omega) (by omega) | exact zp _ (by omega) (by omega)) rfl ?_
      try simp (disch := omega) only [sH_tg, sH_l1, sH_l2, sH_l3, sH_l4, sH_n5, sH_n6, sH_f0, sH_f1, sH_f2, sH_f3, sH_f4, sH_c1, sH_c2, sH_c3, sH_c4, sH_o, t0, f0, f1, f2, f3, f4, t1, l1, t2, l2, t3, l3, t4, l4, u0, g0, g1, g2, g3, g4, u1, k1, u2, k2, u3, k3, u4, k4, y1, y2, y4, yt, zt, w1, w2]
      refine e_iast (pc' := 50) hK rfl (by simp (disch := omega) only [sH_tg, sH_l1, sH_l2, sH_l3, sH_l4, sH_n5, sH_n6, sH_f0, sH_f1, sH_f2, sH_f3, sH_f4, sH_c1, sH_c2, sH_c3, sH_c4, sH_o, t0, f0, f1, f2, f3, f4, t1, l1, t2, l2, t3, l3, t4, l4, u0, g0, g1, g2, g3, g4, u1, k1, u2, k2, u3, k3, u4, k4, y1, y2, y4, yt, zt, w1, w2]) (by first | omega | exact yp _ (by omega) (by omega) | exact zp _ (by omega) (by omega)) (by (try simp (disch := omega) only [sH_tg, sH_l1, sH_l2, sH_l3, sH_l4, sH_n5, sH_n6, sH_f0, sH_f1, sH_f2, sH_f3, sH_f4, sH_c1, sH_c2, sH_c3, sH_c4, sH_o, t0, f0, f1, f2, f3, f4, t1, l1, t2, l2, t3, l3, t4, l4, u0, g0, g1, g2, g3, g4, u1, k1, u2, k2, u3, k3, u4, k4, y1, y2, y4, yt, zt, w1, w2]); first | omega | exact yp _ (by omega) (by omega) | exact zp _ (by omega) (by omega)) rfl ?_
      simp only [sW_5, sW_6, sW_1, sW_2, sW_3, sW_4]
      refine e_step (pc' := 53) hK rfl rfl rfl ?_
      try simp only [List.set_cons_zero, List.set_cons_succ]
      refine e_goto (t := 18) hK rfl (by decide) ?_
      exact ih (i + 1) _ ⟨by omega, by first | exact w1 | rfl, by first | exact w2 | rfl, (fun k h0 h1 => by { show mv_up _ _ _ k = _; unfold mv_up; by_cases hk : k = i; { rw [if_pos hk, hk]; try rfl }; { rw [if_neg hk]; exact w3 k h0 (by omega) } }), (fun k h0 h1 => by { show mv_up _ _ _ k = _; unfold mv_up; by_cases hk : k = i; { rw [if_pos hk, hk]; try rfl }; { rw [if_neg hk]; exact w4 k h0 (by omega) } })⟩
set_option maxRecDepth 10000 in
theorem c_copy0 {s o : Int} {B : lg} (hw : StW h s) (ho : StA h o B) (hd : s + 5 ≤ o ∨ o + 5 ≤ s) (w : sv) : mv_Cl sc q_State_copyFrom [(2, s), (2, o)] c (sH h s w) (fun r c' h' => r = (3, 0) ∧ c' = c ∧ ∃ w, h' = sH h s w ∧ StV h w B) := by
  have hw0 := hw
  have ho0 := ho
  obtain ⟨s1, s2, t0, f0, f1, f2, f3, f4, ⟨t1, l1⟩, ⟨t2, l2⟩, ⟨t3, l3⟩, ⟨t4, l4⟩, hl0⟩ := hw
  obtain ⟨⟨o1, o2, u0, g0, g1, g2, g3, g4, ⟨u1, k1⟩, ⟨u2, k2⟩, ⟨u3, k3⟩, ⟨u4, k4⟩, hl1⟩, hB, y1, y2, y3, y4, y5, y6⟩ := ho
  have b1 := hB.1
  have b2 := hB.2.1
  have yp := fun (k : Int) (h0 : 0 ≤ k) (h1 : k < gn B) => (y3 k h0 h1).pos
  have yt := fun (k : Int) (h0 : 0 ≤ k) (h1 : k < gn B) => (y3 k h0 h1).tag
  have zp := fun (k : Int) (h0 : 0 ≤ k) (h1 : k < gT B) => (y5 k h0 h1).pos
  have zt := fun (k : Int) (h0 : 0 ≤ k) (h1 : k < gT B) => (y5 k h0 h1).tag
  show mv_Ev sc 16 0 [(2, s), (2, o), (5, 0)] [] c (sH h s w) _
  have hK : (mv_m 16).1 = kc_State_copyFrom := rfl
  refine e_step (pc' := 1) hK rfl rfl rfl ?_
  refine e_step (pc' := 2) hK rfl rfl rfl ?_
  refine e_getI (ci := 2) (k := 5) (pc' := 5) hK rfl (by simp (disch := omega) only [sH_tg, sH_l1, sH_l2, sH_l3, sH_l4, sH_n5, sH_n6, sH_f0, sH_f1, sH_f2, sH_f3, sH_f4, sH_c1, sH_c2, sH_c3, sH_c4, sH_o, t0, f0, f1, f2, f3, f4, t1, l1, t2, l2, t3, l3, t4, l4, u0, g0, g1, g2, g3, g4, u1, k1, u2, k2, u3, k3, u4, k4, y1, y2, y4, yt, zt]) rfl rfl (by decide) (by decide) rfl ?_
  try simp (disch := omega) only [sH_tg, sH_l1, sH_l2, sH_l3, sH_l4, sH_n5, sH_n6, sH_f0, sH_f1, sH_f2, sH_f3, sH_f4, sH_c1, sH_c2, sH_c3, sH_c4, sH_o, t0, f0, f1, f2, f3, f4, t1, l1, t2, l2, t3, l3, t4, l4, u0, g0, g1, g2, g3, g4, u1, k1, u2, k2, u3, k3, u4, k4, y1, y2, y4, yt, zt]
  refine e_put (ci := 2) (k := 5) (pc' := 8) hK rfl (by simp (disch := omega) only [sH_tg, sH_l1, sH_l2, sH_l3, sH_l4, sH_n5, sH_n6, sH_f0, sH_f1, sH_f2, sH_f3, sH_f4, sH_c1, sH_c2, sH_c3, sH_c4, sH_o, t0, f0, f1, f2, f3, f4, t1, l1, t2, l2, t3, l3, t4, l4, u0, g0, g1, g2, g3, g4, u1, k1, u2, k2, u3, k3, u4, k4, y1, y2, y4, yt, zt]) rfl rfl (by decide) rfl rfl ?_
  simp only [sW_5, sW_6, sW_1, sW_2, sW_3, sW_4]
  refine e_step (pc' := 9) hK rfl rfl rfl ?_
  refine e_step (pc' := 10) hK rfl rfl rfl ?_
  refine e_getI (ci := 2) (k := 6) (pc' := 13) hK rfl (by simp (disch := omega) only [sH_tg, sH_l1, sH_l2, sH_l3, sH_l4, sH_n5, sH_n6, sH_f0, sH_f1, sH_f2, sH_f3, sH_f4, sH_c1, sH_c2, sH_c3, sH_c4, sH_o, t0, f0, f1, f2, f3, f4, t1, l1, t2, l2, t3, l3, t4, l4, u0, g0, g1, g2, g3, g4, u1, k1, u2, k2, u3, k3, u4, k4, y1, y2, y4, yt, zt]) rfl rfl (by decide) (by decide) rfl ?_
  try simp (disch := omega) only [sH_tg, sH_l1, sH_l2, sH_l3, sH_l4, sH_n5, sH_n6, sH_f0, sH_f1, sH_f2, sH_f3, sH_f4, sH_c1, sH_c2, sH_c3, sH_c4, sH_o, t0, f0, f1, f2, f3, f4, t1, l1, t2, l2, t3, l3, t4, l4, u0, g0, g1, g2, g3, g4, u1, k1, u2, k2, u3, k3, u4, k4, y1, y2, y4, yt, zt]
  refine e_put (ci := 2) (k := 6) (pc' := 16) hK rfl (by simp (disch := omega) only [sH_tg, sH_l1, sH_l2, sH_l3, sH_l4, sH_n5, sH_n6, sH_f0, sH_f1, sH_f2, sH_f3, sH_f4, sH_c1, sH_c2, sH_c3, sH_c4, sH_o, t0, f0, f1, f2, f3, f4, t1, l1, t2, l2, t3, l3, t4, l4, u0, g0, g1, g2, g3, g4, u1, k1, u2, k2, u3, k3, u4, k4, y1, y2, y4, yt, zt]) rfl rfl (by decide) rfl rfl ?_
  simp only [sW_5, sW_6, sW_1, sW_2, sW_3, sW_4]
  refine e_step (pc' := 17) hK rfl rfl rfl ?_
  refine e_step (pc' := 18) hK rfl rfl rfl ?_
  try simp only [List.set_cons_zero, List.set_cons_succ]
  exact c_copy1 hw0 ho0 hd (gn B) 0 _ ⟨by omega, rfl, rfl, fun k h0 h1 => by omega, fun k h0 h1 => by omega⟩
/-- a state's writer: what it leaves -/
def mv_Wr (s : Int) (A : lg) (c : mv_C) (h : mv_H) : mv_R → mv_C → mv_H → Prop := fun r c' h' => r = (3, 0) ∧ c' = c ∧ StA h' s A ∧ mv_frm h h' s
theorem Wr_of {z : Nat} {vs : List mv_V} {s : Int} {A A' : lg} (hs : StA h s A) (hC : mv_Cl sc z vs c (sH h s (hv h s)) (fun r c' h' => r = (3, 0) ∧ c' = c ∧ ∃ w, h' = sH h s w ∧ StV h w A')) : mv_Cl sc z vs c h (mv_Wr s A' c h) := by
  rw [← sH_id] at hC
  obtain ⟨N, r, c1, h1, h2, h3, h4, w, h5, h6⟩ := hC
  subst h5
  exact ⟨N, r, c1, _, h2, h3, h4, StA.mk hs.1 h6, sH_fr⟩
theorem c_put {s : Int} {A : lg} (hs : StA h s A) {l : Int} {x : xt} (hl : LnX h l x) (t : Int) (ht : mv_i t) : mv_Cl sc q_State_put [(2, s), (2, l), (0, t)] c h (mv_Wr s (gput A x t) c h) := Wr_of hs (c_put1 hs.1 hs.v hl t ht)
theorem c_dropLine {s : Int} {A : lg} (hs : StA h s A) (i : Int) (hi : mv_i i) : mv_Cl sc q_State_dropLine [(2, s), (0, i)] c h (mv_Wr s (gdrop A i) c h) := Wr_of hs (c_dropL0 hs.1 hs.v i hi)
theorem c_openWord {s : Int} {A : lg} (hs : StA h s A) (t q : Int) (ht : mv_i t) (hq : mv_i q) : mv_Cl sc q_State_openWord [(2, s), (0, t), (0, q)] c h (mv_Wr s (gopen A t q) c h) := Wr_of hs (c_open0 hs.1 hs.v t q ht hq)
theorem c_moveLines {s : Int} {A : lg} (hs : StA h s A) (u t : Int) (hu : mv_i u) (ht : 0 ≤ t) (ht2 : t ≤ 12) : mv_Cl sc q_State_moveLines [(2, s), (0, u), (0, t)] c h (mv_Wr s (gmove A u t) c h) := Wr_of hs (c_move0 hs.1 hs.v u t hu ht ht2)
theorem c_copyFrom {s o : Int} {A B : lg} (hs : StA h s A) (ho : StA h o B) (hd : s + 5 ≤ o ∨ o + 5 ≤ s) : mv_Cl sc q_State_copyFrom [(2, s), (2, o)] c h (mv_Wr s B c h) := Wr_of hs (c_copy0 hs.1 ho hd _)
end SW
