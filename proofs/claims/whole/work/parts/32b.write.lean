/-! lines written by characters and numbers; the text read (written by wip/whole/m32.py) -/
section WL
variable {sc : Int × (Int → Int)} {c : mv_C} {h : mv_H}
theorem c_addT {l : Int} {x : xt} (hl : LnA h l x.1 x.2) (d : Int) (hd : mv_i d) : mv_Cl sc q_Line_addCharacter [(2, l), (0, d)] c h (fun r c' h' => r = (0, mv_bo (pab (px x.2 x.1) x.1 d)) ∧ c' = c ∧ LnA h' l (xadd x d).1 (xadd x d).2 ∧ mv_frl h h' l) := by
  obtain ⟨N, r, c1, h1, h2, h3, h4⟩ := c_addChar (sc := sc) (c := c) hl d hd
  refine ⟨N, r, c1, h1, h2, ?_⟩
  subst h3
  rcases h4 with ⟨h5, h6, h7, h8⟩ | ⟨h5, h6, h7⟩
  · have e := pab_iff.mpr h5
    refine ⟨by rw [e]; exact h6, rfl, ?_, h8⟩
    unfold xadd
    rw [e]; exact h7
  · have e : pab (px x.2 x.1) x.1 d = false := by
      cases hp : pab (px x.2 x.1) x.1 d with
      | false => rfl
      | true => exact absurd (pab_iff.mp hp) h5
    refine ⟨by rw [e]; exact h6, rfl, ?_, fun b _ => by rw [h7]⟩
    unfold xadd
    rw [e, h7]; exact hl
set_option maxRecDepth 10000 in
theorem c_addN1 {l : Int} {y : xt} (v : Int) (hv : 0 ≤ v) (hv2 : mv_i v) : ∀ (m : Nat) (x : xt) (hh : mv_H), m ≤ 10 ∧ xdig x v m = y ∧ LnA hh l x.1 x.2 ∧ mv_frl h hh l → mv_Ev sc 14 7 [(2, l), (0, v), (0, (m : Int) - 1)] [] c hh (fun r c' h' => r = (3, 0) ∧ c' = c ∧ LnA h' l y.1 y.2 ∧ mv_frl h h' l) := by
  intro m
  induction m with
  | zero =>
    intro x hh ⟨hm, hy, hl, hfr⟩
    have tg := hl.1.2.1
    have hK : (mv_m 14).1 = kc_Line_addNumber := rfl
    refine e_step (pc' := 8) hK rfl rfl rfl ?_
    refine e_if (t := 27) (pc' := 11) hK rfl (by omega) (by decide) rfl (fun hb8 => ?_) (fun hb8 => ?_)
    · replace hb8 := cq_lt.1.mp hb8
      refine e_ret hK rfl rfl rfl ?_
      refine ⟨rfl, rfl, ?_, hfr⟩
      rw [← hy]
      exact hl
    · replace hb8 := cq_lt.2.mp hb8
      exfalso; first | omega | exact absurd trivial (by assumption)
  | succ m ih =>
    intro x hh ⟨hm, hy, hl, hfr⟩
    have tg := hl.1.2.1
    have hK : (mv_m 14).1 = kc_Line_addNumber := rfl
    refine e_step (pc' := 8) hK rfl rfl rfl ?_
    refine e_if (t := 27) (pc' := 11) hK rfl (by omega) (by decide) rfl (fun hb8 => ?_) (fun hb8 => ?_)
    · replace hb8 := cq_lt.1.mp hb8
      exfalso; first | omega | exact absurd trivial (by assumption)
    · replace hb8 := cq_lt.2.mp hb8
      refine e_step (pc' := 12) hK rfl rfl rfl ?_
      refine e_step (pc' := 13) hK rfl rfl rfl ?_
      refine e_step (pc' := 14) hK rfl rfl rfl ?_
      refine e_cRS2 (z := 69) (pc' := 17) hK rfl rfl rfl (Nat.le_of_ble_eq_true rfl) (Nat.le_of_ble_eq_true rfl) (c_digit v (((m + 1 : Nat) : Int) - 1) hv hv2 (by omega)) (by decide) rfl ?_
      try simp only [tg]
      refine e_cQV2 (z := 6) hK rfl rfl (by first | (simp only [tg]; rfl) | (show _ = 2; assumption) | (show _ = 1; assumption) | (show _ = 0; assumption) | (show _ = 3; assumption) | (show _ = 4; assumption)) rfl (Nat.le_of_ble_eq_true rfl) (Nat.le_of_ble_eq_true rfl) (c_addT hl _ (by have q := dgc_b hv (((m + 1 : Nat) : Int) - 1); omega)) ?_
      rintro _ _ h2 ⟨rfl, rfl, hl2, hf2⟩
      refine ⟨by show (0 : Nat) ≠ 4; decide, ?_⟩
      rw [if_neg (by show ¬ (0 : Nat) = 3; decide)]
      have tg2 := hl2.1.2.1
      show mv_Ev _ _ 20 _ _ _ _ _
      refine e_step (pc' := 21) hK rfl rfl rfl ?_
      refine e_step (pc' := 24) hK rfl rfl rfl ?_
      try simp only [List.set_cons_zero, List.set_cons_succ]
      refine e_goto (t := 7) hK rfl (by decide) ?_
      rw [show ((m + 1 : Nat) : Int) - 1 = (m : Int) from by omega] at hl2
      rw [show (((m + 1 : Nat) : Int) - 1) + -1 = (m : Int) - 1 from by omega]
      exact ih _ h2 ⟨by omega, hy, hl2, fun b hb => (hf2 b hb).trans (hfr b hb)⟩
set_option maxRecDepth 10000 in
theorem c_addN {l : Int} {x : xt} (hl : LnA h l x.1 x.2) (v : Int) (hv : 0 ≤ v) (hv2 : mv_i v) : mv_Cl sc q_Line_addNumber [(2, l), (0, v)] c h (fun r c' h' => r = (3, 0) ∧ c' = c ∧ LnA h' l (xnum x v).1 (xnum x v).2 ∧ mv_frl h h' l) := by
  show mv_Ev sc 14 0 [(2, l), (0, v), (5, 0)] [] c h _
  have hK : (mv_m 14).1 = kc_Line_addNumber := rfl
  refine e_step (pc' := 1) hK rfl rfl rfl ?_
  refine e_cRS1 (z := 68) (pc' := 4) hK rfl rfl rfl (Nat.le_of_ble_eq_true rfl) (Nat.le_of_ble_eq_true rfl) (c_digits v hv hv2) (by decide) rfl ?_

  refine e_step (pc' := 5) hK rfl rfl rfl ?_
  refine e_step (pc' := 6) hK rfl rfl rfl ?_
  refine e_step (pc' := 7) hK rfl rfl rfl ?_
  try simp only [List.set_cons_zero, List.set_cons_succ]
  have q9 := c_addN1 (sc := sc) (c := c) (h := h) (l := l) (y := xnum x v) v hv hv2 (dgn v).toNat x h ⟨by have q := dgn_b v; omega, rfl, hl, fun _ _ => rfl⟩
  rw [show (((dgn v).toNat : Nat) : Int) = dgn v from by have q := dgn_b v; omega] at q9
  exact q9
set_option maxRecDepth 10000 in
theorem c_read1 {l : Int} {n : Nat} {f : Int → Int} (ht0 : TxA h n f) (hl2 : 2 ≤ l) : ∀ (m : Nat) (i : Nat) (hh : mv_H), i + m = n ∧ lf (erq f) i = -9999 ∧ LnA hh l i f ∧ mv_frl h hh l → mv_Ev sc 42 6 [(2, 0), (2, l), (0, (i : Int))] [] c hh (fun r c' h' => r = (0, er n f) ∧ c' = c ∧ (er n f = -9999 → LnA h' l n f) ∧ LnW h' l ∧ mv_frl h h' l) := by
  intro m
  induction m with
  | zero =>
    intro i hh ⟨hi, hf, hl, hfr⟩
    have tg := hl.1.2.1
    obtain ⟨t0, t1, t2, t3, t4, t5, t6, t7⟩ := ht0.fr hfr hl2
    have hK : (mv_m 42).1 = kc_LT_readText := rfl
    refine e_step (pc' := 7) hK rfl rfl rfl ?_
    refine e_step (pc' := 8) hK rfl rfl rfl ?_
    refine e_getI (ci := 0) (k := 1) (pc' := 11) hK rfl (by simp (disch := omega) only [tg, t0, t1, t2, t3, t4, t6]) rfl rfl (by decide) (by decide) rfl ?_
    try simp (disch := omega) only [tg, t0, t1, t2, t3, t4, t6]
    refine e_icmp (t := 44) (pc' := 14) hK rfl (by first | omega | exact bo_i _ | (have q := t7 (i : Int) (by omega) (by omega); omega)) (by first | omega | exact bo_i _ | (have q := t7 (i : Int) (by omega) (by omega); omega)) (by decide) rfl (fun hb11 => ?_) (fun hb11 => ?_)
    · replace hb11 := cq_ge.1.mp hb11
      try simp only [bo_0, Bool.not_eq_false] at hb11
      refine e_step (pc' := 45) hK rfl rfl rfl ?_
      refine e_getI (ci := 0) (k := 1) (pc' := 48) hK rfl (by simp (disch := omega) only [tg, t0, t1, t2, t3, t4, t6]) rfl rfl (by decide) (by decide) rfl ?_
      try simp (disch := omega) only [tg, t0, t1, t2, t3, t4, t6]
      refine e_if (t := 55) (pc' := 51) hK rfl (by first | omega | exact bo_i _ | (have q := t7 (i : Int) (by omega) (by omega); omega)) (by decide) rfl (fun hb48 => ?_) (fun hb48 => ?_)
      · replace hb48 := cq_ne.1.mp hb48
        try simp only [bo_0, Bool.not_eq_false] at hb48
        refine e_step (pc' := 58) hK rfl rfl rfl ?_
        refine e_ret hK rfl rfl rfl ?_
        have e : lf (erq f) n = -9999 := by { rw [show n = i from by omega]; exact hf }
        have e2 : er n f = -9999 := by { unfold er; rw [if_pos e, if_neg (by omega)] }
        refine ⟨by rw [e2], rfl, fun _ => ?_, hl.1, hfr⟩
        rw [show n = i from by omega]
        exact hl
      · replace hb48 := cq_ne.2.mp hb48
        try simp only [bo_0, Bool.not_eq_false] at hb48
        refine e_step (pc' := 52) hK rfl rfl rfl ?_
        refine e_goto (t := 58) hK rfl (by decide) ?_
        refine e_ret hK rfl rfl rfl ?_
        have e : lf (erq f) n = -9999 := by { rw [show n = i from by omega]; exact hf }
        have e2 : er n f = 0 := by { unfold er; rw [if_pos e, if_pos (by omega)] }
        refine ⟨by rw [e2], rfl, fun _ => ?_, hl.1, hfr⟩
        rw [show n = i from by omega]
        exact hl
    · replace hb11 := cq_ge.2.mp hb11
      try simp only [bo_0, Bool.not_eq_false] at hb11
      exfalso; first | omega | exact absurd trivial (by assumption) | (first | omega | exact bo_i _ | (have q := t7 (i : Int) (by omega) (by omega); omega))
  | succ m ih =>
    intro i hh ⟨hi, hf, hl, hfr⟩
    have tg := hl.1.2.1
    obtain ⟨t0, t1, t2, t3, t4, t5, t6, t7⟩ := ht0.fr hfr hl2
    have hK : (mv_m 42).1 = kc_LT_readText := rfl
    refine e_step (pc' := 7) hK rfl rfl rfl ?_
    refine e_step (pc' := 8) hK rfl rfl rfl ?_
    refine e_getI (ci := 0) (k := 1) (pc' := 11) hK rfl (by simp (disch := omega) only [tg, t0, t1, t2, t3, t4, t6]) rfl rfl (by decide) (by decide) rfl ?_
    try simp (disch := omega) only [tg, t0, t1, t2, t3, t4, t6]
    refine e_icmp (t := 44) (pc' := 14) hK rfl (by first | omega | exact bo_i _ | (have q := t7 (i : Int) (by omega) (by omega); omega)) (by first | omega | exact bo_i _ | (have q := t7 (i : Int) (by omega) (by omega); omega)) (by decide) rfl (fun hb11 => ?_) (fun hb11 => ?_)
    · replace hb11 := cq_ge.1.mp hb11
      try simp only [bo_0, Bool.not_eq_false] at hb11
      exfalso; first | omega | exact absurd trivial (by assumption) | (first | omega | exact bo_i _ | (have q := t7 (i : Int) (by omega) (by omega); omega))
    · replace hb11 := cq_ge.2.mp hb11
      try simp only [bo_0, Bool.not_eq_false] at hb11
      refine e_step (pc' := 15) hK rfl rfl rfl ?_
      refine e_step (pc' := 16) hK rfl rfl rfl ?_
      refine e_getR (ci := 0) (k := 0) (pc' := 19) hK rfl (by simp (disch := omega) only [tg, t0, t1, t2, t3, t4, t6]) rfl rfl (by decide) (by decide) (by (try simp (disch := omega) only [tg, t0, t1, t2, t3, t4, t6]); first | omega | exact bo_i _ | (have q := t7 (i : Int) (by omega) (by omega); omega)) rfl ?_
      try simp (disch := omega) only [tg, t0, t1, t2, t3, t4, t6]
      refine e_alen (pc' := 20) hK rfl (by simp only [tg, t0, t1, t2, t3, t4, t6]; decide) rfl ?_
      try simp (disch := omega) only [tg, t0, t1, t2, t3, t4, t6]
      refine e_icmp (t := 44) (pc' := 23) hK rfl (by first | omega | exact bo_i _ | (have q := t7 (i : Int) (by omega) (by omega); omega)) (by first | omega | exact bo_i _ | (have q := t7 (i : Int) (by omega) (by omega); omega)) (by decide) rfl (fun hb20 => ?_) (fun hb20 => ?_)
      · replace hb20 := cq_ge.1.mp hb20
        try simp only [bo_0, Bool.not_eq_false] at hb20
        exfalso; first | omega | exact absurd trivial (by assumption) | (first | omega | exact bo_i _ | (have q := t7 (i : Int) (by omega) (by omega); omega))
      · replace hb20 := cq_ge.2.mp hb20
        try simp only [bo_0, Bool.not_eq_false] at hb20
        refine e_step (pc' := 24) hK rfl rfl rfl ?_
        refine e_step (pc' := 25) hK rfl rfl rfl ?_
        refine e_getR (ci := 0) (k := 0) (pc' := 28) hK rfl (by simp (disch := omega) only [tg, t0, t1, t2, t3, t4, t6]) rfl rfl (by decide) (by decide) (by (try simp (disch := omega) only [tg, t0, t1, t2, t3, t4, t6]); first | omega | exact bo_i _ | (have q := t7 (i : Int) (by omega) (by omega); omega)) rfl ?_
        try simp (disch := omega) only [tg, t0, t1, t2, t3, t4, t6]
        refine e_step (pc' := 29) hK rfl rfl rfl ?_
        refine e_cald (pc' := 30) hK rfl (by simp (disch := omega) only [tg, t0, t1, t2, t3, t4, t6]) (by first | omega | exact bo_i _ | (have q := t7 (i : Int) (by omega) (by omega); omega)) (by (try simp (disch := omega) only [tg, t0, t1, t2, t3, t4, t6]); first | omega | exact bo_i _ | (have q := t7 (i : Int) (by omega) (by omega); omega)) rfl ?_
        try simp (disch := omega) only [tg, t0, t1, t2, t3, t4, t6]
        refine e_cQV2 (z := 6) hK rfl rfl (by first | (simp (disch := omega) only [tg, t0, t1, t2, t3, t4, t6]; rfl) | (show _ = 2; assumption) | (show _ = 1; assumption) | (show _ = 0; assumption) | (show _ = 3; assumption) | (show _ = 4; assumption)) rfl (Nat.le_of_ble_eq_true rfl) (Nat.le_of_ble_eq_true rfl) (c_addT (x := (i, f)) hl _ (by have q := t7 (i : Int) (by omega) (by omega); omega)) ?_
        rintro _ _ h2 ⟨rfl, rfl, hl3, hf2⟩
        refine ⟨by show (0 : Nat) ≠ 4; decide, ?_⟩
        rw [if_neg (by show ¬ (0 : Nat) = 3; decide)]
        try dsimp only at hl3
        show mv_Ev _ _ 33 _ _ _ _ _
        refine e_if (t := 38) (pc' := 36) hK rfl (by first | omega | exact bo_i _ | (have q := t7 (i : Int) (by omega) (by omega); omega)) (by decide) rfl (fun hb33 => ?_) (fun hb33 => ?_)
        · replace hb33 := cq_ne.1.mp hb33
          try simp only [bo_0, Bool.not_eq_false] at hb33
          refine e_step (pc' := 41) hK rfl rfl rfl ?_
          try simp only [List.set_cons_zero, List.set_cons_succ]
          refine e_goto (t := 6) hK rfl (by decide) ?_
          have e0 : erq f (i : Int) = false := by { unfold erq; rw [Int.toNat_natCast]; rw [show pab (px f i) i (f (i : Int)) = true from hb33]; rfl }
          have e1 : xadd (i, f) (f (i : Int)) = (i + 1, f) := by { unfold xadd; dsimp only; rw [show pab (px f i) i (f (i : Int)) = true from hb33, up_id]; rfl }
          rw [e1] at hl3
          exact ih (i + 1) h2 ⟨by omega, lf_s hf e0, hl3, fun b hb => (hf2 b hb).trans (hfr b hb)⟩
        · replace hb33 := cq_ne.2.mp hb33
          try simp only [bo_0, Bool.not_eq_false] at hb33
          refine e_step (pc' := 37) hK rfl rfl rfl ?_
          refine e_ret hK rfl rfl rfl ?_
          have e0 : erq f (i : Int) = true := by { unfold erq; rw [Int.toNat_natCast]; rw [show pab (px f i) i (f (i : Int)) = false from hb33]; rfl }
          have e : lf (erq f) n = i := lf_hit hf e0 (by omega)
          have e2 : er n f = i := by { unfold er; rw [if_neg (by omega)]; exact e }
          exact ⟨by rw [e2], rfl, fun q => by omega, hl3.1, fun b hb => (hf2 b hb).trans (hfr b hb)⟩
set_option maxRecDepth 10000 in
theorem c_read {l : Int} {n : Nat} {f : Int → Int} (ht0 : TxA h n f) (hw : LnW h l) (hl2 : 2 ≤ l) : mv_Cl sc q_LT_readText [(2, 0), (2, l)] c h (fun r c' h' => r = (0, er n f) ∧ c' = c ∧ (er n f = -9999 → LnA h' l n f) ∧ LnW h' l ∧ mv_frl h h' l) := by
  have tg := hw.2.1
  show mv_Ev sc 42 0 [(2, 0), (2, l), (5, 0)] [] c h _
  have hK : (mv_m 42).1 = kc_LT_readText := rfl
  refine e_step (pc' := 1) hK rfl rfl rfl ?_
  refine e_cQV1 (z := 5) hK rfl rfl (by first | (simp only [tg]; rfl) | (show _ = 2; assumption) | (show _ = 1; assumption) | (show _ = 0; assumption) | (show _ = 3; assumption) | (show _ = 4; assumption)) rfl (Nat.le_of_ble_eq_true rfl) (Nat.le_of_ble_eq_true rfl) (c_clear hw) ?_
  rintro _ _ h2 ⟨rfl, rfl, hl, hk⟩
  refine ⟨by decide, ?_⟩
  rw [if_pos rfl]
  show mv_Ev _ _ 4 _ _ _ _ _
  refine e_step (pc' := 5) hK rfl rfl rfl ?_
  refine e_step (pc' := 6) hK rfl rfl rfl ?_
  try simp only [List.set_cons_zero, List.set_cons_succ]
  exact c_read1 ht0 hl2 n 0 h2 ⟨by omega, rfl, hl f, fun b hb => hk b (by omega)⟩
def sl (r : Int) : Int := 97 + (r.tdiv 4).tmod 3
def sx (r v : Int) : xt := xadd (xadd (xnum (xadd (xadd (xadd x0 (sl r)) (sl r)) 32) v) (if (r.tdiv 16).tmod 4 = 0 then 61 else 58)) (109 + (r.tdiv 64).tmod 5)
def stx (r v : Int) : xt := if (r.tdiv 32768).tmod 2 = 0 then xnum (xadd (sx r v) 32) ((r.tdiv 512).tmod 50) else sx r v
theorem sm_b {r : Int} (h0 : 0 ≤ r) (h1 : r ≤ 2147483647) (k m : Int) (hk : 0 < k) (hm : 0 < m) : 0 ≤ (r.tdiv k).tmod m ∧ (r.tdiv k).tmod m < m ∧ 0 ≤ r.tdiv k ∧ r.tdiv k ≤ r := by
  rw [Int.tdiv_eq_ediv_of_nonneg h0, Int.tmod_eq_emod_of_nonneg (Int.ediv_nonneg h0 (by omega))]
  exact ⟨Int.emod_nonneg _ (by omega), Int.emod_lt_of_pos _ hm, Int.ediv_nonneg h0 (by omega), Int.ediv_le_self _ h0⟩
set_option maxRecDepth 10000 in
theorem c_writeSim {l : Int} (hw : LnW h l) (r v : Int) (hr : 0 ≤ r) (hr2 : r ≤ 2147483647) (hv : 0 ≤ v) (hv2 : mv_i v) : mv_Cl sc q_LT_writeSimulated [(2, l), (0, r), (0, v)] c h (fun r' c' h' => r' = (3, 0) ∧ c' = c ∧ LnA h' l (stx r v).1 (stx r v).2 ∧ mv_frl h h' l) := by
  have tg := hw.2.1
  have m4 := sm_b hr hr2 4 3 (by decide) (by decide)
  have m16 := sm_b hr hr2 16 4 (by decide) (by decide)
  have m64 := sm_b hr hr2 64 5 (by decide) (by decide)
  have m32768 := sm_b hr hr2 32768 2 (by decide) (by decide)
  have m512 := sm_b hr hr2 512 50 (by decide) (by decide)
  show mv_Ev sc 74 0 [(2, l), (0, r), (0, v), (5, 0)] [] c h _
  have hK : (mv_m 74).1 = kc_LT_writeSimulated := rfl
  refine e_step (pc' := 1) hK rfl rfl rfl ?_
  refine e_cQV1 (z := 5) hK rfl rfl (by first | (simp only [tg]; rfl) | (show _ = 2; assumption) | (show _ = 1; assumption) | (show _ = 0; assumption) | (show _ = 3; assumption) | (show _ = 4; assumption)) rfl (Nat.le_of_ble_eq_true rfl) (Nat.le_of_ble_eq_true rfl) (c_clear hw) ?_
  rintro _ _ h1 ⟨rfl, rfl, hl1, hf1⟩
  replace hl1 := hl1 (fun _ => 2)
  refine ⟨by decide, ?_⟩
  rw [if_pos rfl]
  have tg1 := hl1.1.2.1
  show mv_Ev _ _ 4 _ _ _ _ _
  refine e_step (pc' := 6) hK rfl rfl rfl ?_
  refine e_step (pc' := 7) hK rfl rfl rfl ?_
  refine e_step (pc' := 8) hK rfl rfl rfl ?_
  refine e_idiv (pc' := 9) hK rfl (by omega) (by omega) (by omega) rfl ?_
  refine e_step (pc' := 10) hK rfl rfl rfl ?_
  refine e_irem (pc' := 11) hK rfl (by omega) (by omega) (by omega) rfl ?_
  refine e_step (pc' := 12) hK rfl rfl rfl ?_
  refine e_step (pc' := 13) hK rfl rfl rfl ?_
  try simp only [List.set_cons_zero, List.set_cons_succ]
  refine e_step (pc' := 14) hK rfl rfl rfl ?_
  refine e_step (pc' := 15) hK rfl rfl rfl ?_
  refine e_cQV2 (z := 6) hK rfl rfl (by first | (simp only [tg]; rfl) | (show _ = 2; assumption) | (show _ = 1; assumption) | (show _ = 0; assumption) | (show _ = 3; assumption) | (show _ = 4; assumption)) rfl (Nat.le_of_ble_eq_true rfl) (Nat.le_of_ble_eq_true rfl) (c_addT (x := x0) hl1 _ (by omega)) ?_
  rintro _ _ h2 ⟨rfl, rfl, hl2, hf2⟩
  refine ⟨by show (0 : Nat) ≠ 4; decide, ?_⟩
  rw [if_neg (by show ¬ (0 : Nat) = 3; decide)]
  have tg2 := hl2.1.2.1
  show mv_Ev _ _ 18 _ _ _ _ _
  refine e_step (pc' := 19) hK rfl rfl rfl ?_
  refine e_step (pc' := 20) hK rfl rfl rfl ?_
  refine e_step (pc' := 21) hK rfl rfl rfl ?_
  refine e_cQV2 (z := 6) hK rfl rfl (by first | (simp only [tg]; rfl) | (show _ = 2; assumption) | (show _ = 1; assumption) | (show _ = 0; assumption) | (show _ = 3; assumption) | (show _ = 4; assumption)) rfl (Nat.le_of_ble_eq_true rfl) (Nat.le_of_ble_eq_true rfl) (c_addT (x := _) hl2 _ (by omega)) ?_
  rintro _ _ h3 ⟨rfl, rfl, hl3, hf3⟩
  refine ⟨by show (0 : Nat) ≠ 4; decide, ?_⟩
  rw [if_neg (by show ¬ (0 : Nat) = 3; decide)]
  have tg3 := hl3.1.2.1
  show mv_Ev _ _ 24 _ _ _ _ _
  refine e_step (pc' := 25) hK rfl rfl rfl ?_
  refine e_step (pc' := 26) hK rfl rfl rfl ?_
  refine e_step (pc' := 28) hK rfl rfl rfl ?_
  refine e_cQV2 (z := 6) hK rfl rfl (by first | (simp only [tg]; rfl) | (show _ = 2; assumption) | (show _ = 1; assumption) | (show _ = 0; assumption) | (show _ = 3; assumption) | (show _ = 4; assumption)) rfl (Nat.le_of_ble_eq_true rfl) (Nat.le_of_ble_eq_true rfl) (c_addT (x := _) hl3 _ (by omega)) ?_
  rintro _ _ h4 ⟨rfl, rfl, hl4, hf4⟩
  refine ⟨by show (0 : Nat) ≠ 4; decide, ?_⟩
  rw [if_neg (by show ¬ (0 : Nat) = 3; decide)]
  have tg4 := hl4.1.2.1
  show mv_Ev _ _ 31 _ _ _ _ _
  refine e_step (pc' := 32) hK rfl rfl rfl ?_
  refine e_step (pc' := 33) hK rfl rfl rfl ?_
  refine e_step (pc' := 34) hK rfl rfl rfl ?_
  refine e_cQV2 (z := 14) hK rfl rfl (by first | (simp only [tg]; rfl) | (show _ = 2; assumption) | (show _ = 1; assumption) | (show _ = 0; assumption) | (show _ = 3; assumption) | (show _ = 4; assumption)) rfl (Nat.le_of_ble_eq_true rfl) (Nat.le_of_ble_eq_true rfl) (c_addN hl4 _ (by omega) (by omega)) ?_
  rintro _ _ h5 ⟨rfl, rfl, hl5, hf5⟩
  refine ⟨by decide, ?_⟩
  rw [if_pos rfl]
  have tg5 := hl5.1.2.1
  show mv_Ev _ _ 37 _ _ _ _ _
  refine e_step (pc' := 38) hK rfl rfl rfl ?_
  refine e_step (pc' := 39) hK rfl rfl rfl ?_
  refine e_step (pc' := 41) hK rfl rfl rfl ?_
  refine e_idiv (pc' := 42) hK rfl (by omega) (by omega) (by omega) rfl ?_
  refine e_step (pc' := 43) hK rfl rfl rfl ?_
  refine e_irem (pc' := 44) hK rfl (by omega) (by omega) (by omega) rfl ?_
  refine e_if (t := 52) (pc' := 47) hK rfl (by omega) (by decide) rfl (fun hb44 => ?_) (fun hb44 => ?_)
  · replace hb44 := cq_ne.1.mp hb44
    refine e_step (pc' := 54) hK rfl rfl rfl ?_
    refine e_cQV2 (z := 6) hK rfl rfl (by first | (simp only [tg]; rfl) | (show _ = 2; assumption) | (show _ = 1; assumption) | (show _ = 0; assumption) | (show _ = 3; assumption) | (show _ = 4; assumption)) rfl (Nat.le_of_ble_eq_true rfl) (Nat.le_of_ble_eq_true rfl) (c_addT (x := _) hl5 _ (by omega)) ?_
    rintro _ _ h6 ⟨rfl, rfl, hl6, hf6⟩
    refine ⟨by show (0 : Nat) ≠ 4; decide, ?_⟩
    rw [if_neg (by show ¬ (0 : Nat) = 3; decide)]
    have tg6 := hl6.1.2.1
    show mv_Ev _ _ 57 _ _ _ _ _
    refine e_step (pc' := 58) hK rfl rfl rfl ?_
    refine e_step (pc' := 59) hK rfl rfl rfl ?_
    refine e_step (pc' := 61) hK rfl rfl rfl ?_
    refine e_step (pc' := 62) hK rfl rfl rfl ?_
    refine e_step (pc' := 64) hK rfl rfl rfl ?_
    refine e_idiv (pc' := 65) hK rfl (by omega) (by omega) (by omega) rfl ?_
    refine e_step (pc' := 66) hK rfl rfl rfl ?_
    refine e_irem (pc' := 67) hK rfl (by omega) (by omega) (by omega) rfl ?_
    refine e_step (pc' := 68) hK rfl rfl rfl ?_
    refine e_cQV2 (z := 6) hK rfl rfl (by first | (simp only [tg]; rfl) | (show _ = 2; assumption) | (show _ = 1; assumption) | (show _ = 0; assumption) | (show _ = 3; assumption) | (show _ = 4; assumption)) rfl (Nat.le_of_ble_eq_true rfl) (Nat.le_of_ble_eq_true rfl) (c_addT (x := _) hl6 _ (by omega)) ?_
    rintro _ _ h7 ⟨rfl, rfl, hl7, hf7⟩
    refine ⟨by show (0 : Nat) ≠ 4; decide, ?_⟩
    rw [if_neg (by show ¬ (0 : Nat) = 3; decide)]
    have tg7 := hl7.1.2.1
    show mv_Ev _ _ 71 _ _ _ _ _
    refine e_step (pc' := 72) hK rfl rfl rfl ?_
    refine e_step (pc' := 73) hK rfl rfl rfl ?_
    refine e_step (pc' := 76) hK rfl rfl rfl ?_
    refine e_idiv (pc' := 77) hK rfl (by omega) (by omega) (by omega) rfl ?_
    refine e_step (pc' := 78) hK rfl rfl rfl ?_
    refine e_irem (pc' := 79) hK rfl (by omega) (by omega) (by omega) rfl ?_
    refine e_if (t := 101) (pc' := 82) hK rfl (by omega) (by decide) rfl (fun hb79 => ?_) (fun hb79 => ?_)
    · replace hb79 := cq_ne.1.mp hb79
      refine e_ret hK rfl rfl rfl ?_
      refine ⟨rfl, rfl, ?_, fun b hb => (hf7 b hb).trans ((hf6 b hb).trans ((hf5 b hb).trans ((hf4 b hb).trans ((hf3 b hb).trans ((hf2 b hb).trans (hf1 b (by omega)))))))⟩
      unfold stx
      rw [if_neg hb79]
      unfold sx
      rw [if_neg hb44]
      exact hl7
    · replace hb79 := cq_ne.2.mp hb79
      refine e_step (pc' := 83) hK rfl rfl rfl ?_
      refine e_step (pc' := 85) hK rfl rfl rfl ?_
      refine e_cQV2 (z := 6) hK rfl rfl (by first | (simp only [tg]; rfl) | (show _ = 2; assumption) | (show _ = 1; assumption) | (show _ = 0; assumption) | (show _ = 3; assumption) | (show _ = 4; assumption)) rfl (Nat.le_of_ble_eq_true rfl) (Nat.le_of_ble_eq_true rfl) (c_addT (x := _) hl7 _ (by omega)) ?_
      rintro _ _ h8 ⟨rfl, rfl, hl8, hf8⟩
      refine ⟨by show (0 : Nat) ≠ 4; decide, ?_⟩
      rw [if_neg (by show ¬ (0 : Nat) = 3; decide)]
      have tg8 := hl8.1.2.1
      show mv_Ev _ _ 88 _ _ _ _ _
      refine e_step (pc' := 89) hK rfl rfl rfl ?_
      refine e_step (pc' := 90) hK rfl rfl rfl ?_
      refine e_step (pc' := 91) hK rfl rfl rfl ?_
      refine e_step (pc' := 94) hK rfl rfl rfl ?_
      refine e_idiv (pc' := 95) hK rfl (by omega) (by omega) (by omega) rfl ?_
      refine e_step (pc' := 97) hK rfl rfl rfl ?_
      refine e_irem (pc' := 98) hK rfl (by omega) (by omega) (by omega) rfl ?_
      refine e_cQV2 (z := 14) hK rfl rfl (by first | (simp only [tg]; rfl) | (show _ = 2; assumption) | (show _ = 1; assumption) | (show _ = 0; assumption) | (show _ = 3; assumption) | (show _ = 4; assumption)) rfl (Nat.le_of_ble_eq_true rfl) (Nat.le_of_ble_eq_true rfl) (c_addN hl8 _ (by omega) (by omega)) ?_
      rintro _ _ h9 ⟨rfl, rfl, hl9, hf9⟩
      refine ⟨by decide, ?_⟩
      rw [if_pos rfl]
      have tg9 := hl9.1.2.1
      show mv_Ev _ _ 101 _ _ _ _ _
      refine e_ret hK rfl rfl rfl ?_
      refine ⟨rfl, rfl, ?_, fun b hb => (hf9 b hb).trans ((hf8 b hb).trans ((hf7 b hb).trans ((hf6 b hb).trans ((hf5 b hb).trans ((hf4 b hb).trans ((hf3 b hb).trans ((hf2 b hb).trans (hf1 b (by omega)))))))))⟩
      unfold stx
      rw [if_pos hb79]
      unfold sx
      rw [if_neg hb44]
      exact hl9
  · replace hb44 := cq_ne.2.mp hb44
    refine e_step (pc' := 49) hK rfl rfl rfl ?_
    refine e_goto (t := 54) hK rfl (by decide) ?_
    refine e_cQV2 (z := 6) hK rfl rfl (by first | (simp only [tg]; rfl) | (show _ = 2; assumption) | (show _ = 1; assumption) | (show _ = 0; assumption) | (show _ = 3; assumption) | (show _ = 4; assumption)) rfl (Nat.le_of_ble_eq_true rfl) (Nat.le_of_ble_eq_true rfl) (c_addT (x := _) hl5 _ (by omega)) ?_
    rintro _ _ h6 ⟨rfl, rfl, hl6, hf6⟩
    refine ⟨by show (0 : Nat) ≠ 4; decide, ?_⟩
    rw [if_neg (by show ¬ (0 : Nat) = 3; decide)]
    have tg6 := hl6.1.2.1
    show mv_Ev _ _ 57 _ _ _ _ _
    refine e_step (pc' := 58) hK rfl rfl rfl ?_
    refine e_step (pc' := 59) hK rfl rfl rfl ?_
    refine e_step (pc' := 61) hK rfl rfl rfl ?_
    refine e_step (pc' := 62) hK rfl rfl rfl ?_
    refine e_step (pc' := 64) hK rfl rfl rfl ?_
    refine e_idiv (pc' := 65) hK rfl (by omega) (by omega) (by omega) rfl ?_
    refine e_step (pc' := 66) hK rfl rfl rfl ?_
    refine e_irem (pc' := 67) hK rfl (by omega) (by omega) (by omega) rfl ?_
    refine e_step (pc' := 68) hK rfl rfl rfl ?_
    refine e_cQV2 (z := 6) hK rfl rfl (by first | (simp only [tg]; rfl) | (show _ = 2; assumption) | (show _ = 1; assumption) | (show _ = 0; assumption) | (show _ = 3; assumption) | (show _ = 4; assumption)) rfl (Nat.le_of_ble_eq_true rfl) (Nat.le_of_ble_eq_true rfl) (c_addT (x := _) hl6 _ (by omega)) ?_
    rintro _ _ h7 ⟨rfl, rfl, hl7, hf7⟩
    refine ⟨by show (0 : Nat) ≠ 4; decide, ?_⟩
    rw [if_neg (by show ¬ (0 : Nat) = 3; decide)]
    have tg7 := hl7.1.2.1
    show mv_Ev _ _ 71 _ _ _ _ _
    refine e_step (pc' := 72) hK rfl rfl rfl ?_
    refine e_step (pc' := 73) hK rfl rfl rfl ?_
    refine e_step (pc' := 76) hK rfl rfl rfl ?_
    refine e_idiv (pc' := 77) hK rfl (by omega) (by omega) (by omega) rfl ?_
    refine e_step (pc' := 78) hK rfl rfl rfl ?_
    refine e_irem (pc' := 79) hK rfl (by omega) (by omega) (by omega) rfl ?_
    refine e_if (t := 101) (pc' := 82) hK rfl (by omega) (by decide) rfl (fun hb79 => ?_) (fun hb79 => ?_)
    · replace hb79 := cq_ne.1.mp hb79
      refine e_ret hK rfl rfl rfl ?_
      refine ⟨rfl, rfl, ?_, fun b hb => (hf7 b hb).trans ((hf6 b hb).trans ((hf5 b hb).trans ((hf4 b hb).trans ((hf3 b hb).trans ((hf2 b hb).trans (hf1 b (by omega)))))))⟩
      unfold stx
      rw [if_neg hb79]
      unfold sx
      rw [if_pos hb44]
      exact hl7
    · replace hb79 := cq_ne.2.mp hb79
      refine e_step (pc' := 83) hK rfl rfl rfl ?_
      refine e_step (pc' := 85) hK rfl rfl rfl ?_
      refine e_cQV2 (z := 6) hK rfl rfl (by first | (simp only [tg]; rfl) | (show _ = 2; assumption) | (show _ = 1; assumption) | (show _ = 0; assumption) | (show _ = 3; assumption) | (show _ = 4; assumption)) rfl (Nat.le_of_ble_eq_true rfl) (Nat.le_of_ble_eq_true rfl) (c_addT (x := _) hl7 _ (by omega)) ?_
      rintro _ _ h8 ⟨rfl, rfl, hl8, hf8⟩
      refine ⟨by show (0 : Nat) ≠ 4; decide, ?_⟩
      rw [if_neg (by show ¬ (0 : Nat) = 3; decide)]
      have tg8 := hl8.1.2.1
      show mv_Ev _ _ 88 _ _ _ _ _
      refine e_step (pc' := 89) hK rfl rfl rfl ?_
      refine e_step (pc' := 90) hK rfl rfl rfl ?_
      refine e_step (pc' := 91) hK rfl rfl rfl ?_
      refine e_step (pc' := 94) hK rfl rfl rfl ?_
      refine e_idiv (pc' := 95) hK rfl (by omega) (by omega) (by omega) rfl ?_
      refine e_step (pc' := 97) hK rfl rfl rfl ?_
      refine e_irem (pc' := 98) hK rfl (by omega) (by omega) (by omega) rfl ?_
      refine e_cQV2 (z := 14) hK rfl rfl (by first | (simp only [tg]; rfl) | (show _ = 2; assumption) | (show _ = 1; assumption) | (show _ = 0; assumption) | (show _ = 3; assumption) | (show _ = 4; assumption)) rfl (Nat.le_of_ble_eq_true rfl) (Nat.le_of_ble_eq_true rfl) (c_addN hl8 _ (by omega) (by omega)) ?_
      rintro _ _ h9 ⟨rfl, rfl, hl9, hf9⟩
      refine ⟨by decide, ?_⟩
      rw [if_pos rfl]
      have tg9 := hl9.1.2.1
      show mv_Ev _ _ 101 _ _ _ _ _
      refine e_ret hK rfl rfl rfl ?_
      refine ⟨rfl, rfl, ?_, fun b hb => (hf9 b hb).trans ((hf8 b hb).trans ((hf7 b hb).trans ((hf6 b hb).trans ((hf5 b hb).trans ((hf4 b hb).trans ((hf3 b hb).trans ((hf2 b hb).trans (hf1 b (by omega)))))))))⟩
      unfold stx
      rw [if_pos hb79]
      unfold sx
      rw [if_pos hb44]
      exact hl9
end WL
