/-! the rounds of the law (written by wip/whole/m82.py) -/
section GO
variable {sc : Int × (Int → Int)} {c : mv_C} {h : mv_H}
theorem e_sal {y : Nat} {K : List (Nat × Instr × Int)} {pc pc' : Nat} {a : Int} {ls r : List mv_V} {z : Int} {Q : mv_R → mv_C → mv_H → Prop} (hK : (mv_m y).1 = K) (hg : mv_get K pc = some (.arraylength, a)) (hp : pc + 1 = pc') (k0 : mv_Ev sc y pc' ls ((0, sc.1) :: r) c h Q) : mv_Ev sc y pc ls ((4, z) :: r) c h Q := by
  subst hp
  exact e_step hK hg rfl rfl k0
theorem e_sil {y : Nat} {K : List (Nat × Instr × Int)} {pc pc' : Nat} {a : Int} {ls r : List mv_V} {z j : Int} {Q : mv_R → mv_C → mv_H → Prop} (hK : (mv_m y).1 = K) (hg : mv_get K pc = some (.iaload, a)) (h2 : 0 ≤ j) (h3 : j < sc.1) (hp : pc + 1 = pc') (k0 : mv_Ev sc y pc' ls ((0, sc.2 j) :: r) c h Q) : mv_Ev sc y pc ls ((0, j) :: (4, z) :: r) c h Q := by
  subst hp
  exact e_step hK hg rfl (by simp only [mv_step]; rw [if_pos ⟨h2, h3⟩]) k0
theorem e_lor {y : Nat} {K : List (Nat × Instr × Int)} {pc pc' : Nat} {a : Int} {ls r : List mv_V} {x z : Int} {Q : mv_R → mv_C → mv_H → Prop} (hK : (mv_m y).1 = K) (hg : mv_get K pc = some (.lor, a)) (h1 : x % 4294967296 = 0) (h2 : 0 ≤ z) (h3 : z < 4294967296) (hp : pc + 1 = pc') (k0 : mv_Ev sc y pc' ls ((1, x + z) :: r) c h Q) : mv_Ev sc y pc ls ((1, z) :: (1, x) :: r) c h Q := by
  subst hp
  exact e_step hK hg rfl (by simp only [mv_step, mv_j2]; rw [if_pos ⟨h1, h2, h3⟩]) k0
theorem cL_s (x : Int) : mv_cL x x = 0 := by unfold mv_cL; rw [if_neg (by omega), if_pos rfl]
theorem p32 : (2 : Int) ^ (32 : Int).toNat = 4294967296 := rfl
def LI (W : wt) (v : mvt) (m : Nat) (h : mv_H) : Prop := LtA m (mH h v) W ∧ MdA v W ∧ (h 276).1 = 13 ∧ (h 276).2.1 = 1
theorem LtA.mv {m : Nat} {h : mv_H} {v w : mvt} {W : wt} (hl : LtA m (mH h v) W) : LtA m (mH h w) W := ⟨hl.1.kq (fun b hb => by unfold csb at hb; rw [mH_o (by omega), mH_o (by omega)]), hl.2.kq (fun b hb => by rw [mH_o (by omega), mH_o (by omega)])⟩
theorem m76 {h : mv_H} {v : mvt} : mH h v 276 = h 276 := mH_o (by omega)
set_option maxRecDepth 10000 in
theorem r_append {Q : mv_R → mv_C → mv_H → Prop} {W : wt} {v : mvt} {m o s_ : Nat} (hI : LI W v m h) (hs : ∀ j : Int, mv_i (sc.2 j)) (i : Int) (hi : 0 ≤ i) (hn : i + 4 ≤ sc.1) (a5 a6 : mv_V) (K : ∀ (W1 : wt) (v1 : mvt) (g1 : mv_H) (c1 : mv_C) (b5 b6 : mv_V), LI W1 v1 c1.1 g1 → cgr (m, o, s_) c1 → mv_Ev sc 205 1531 [(4, 0), (2, 0), (2, 264), (2, 276), (0, i), b5, b6] [] c1 (mH g1 v1) Q) : mv_Ev sc 205 160 [(4, 0), (2, 0), (2, 264), (2, 276), (0, i), a5, a6] [] (m, o, s_) (mH h v) Q := by
  obtain ⟨hL, hM, q1, q2⟩ := hI
  have o1 : (mH h v 276).1 = 13 := by { rw [m76]; exact q1 }
  have o2 : (mH h v 276).2.1 = 1 := by { rw [m76]; exact q2 }
  have a0 : (mH h v 0).1 = 0 := hL.1.1.1
  have hK : (mv_m 205).1 = kc_Law_law := rfl
  refine e_step (pc' := 161) hK rfl rfl rfl ?_
  refine e_step (pc' := 162) hK rfl rfl rfl ?_
  refine e_step (pc' := 164) hK rfl rfl rfl ?_
  refine e_step (pc' := 165) hK rfl rfl rfl ?_
  refine e_step (pc' := 166) hK rfl rfl rfl ?_
  refine e_sil (pc' := 167) hK rfl (by first | omega | assumption | exact hs _) (by first | omega | assumption | exact hs _) rfl ?_
  refine e_step (pc' := 168) hK rfl rfl rfl ?_
  refine e_cQS3 (z := 185) hK rfl rfl rfl (Nat.le_of_ble_eq_true rfl) (Nat.le_of_ble_eq_true rfl) (w_append hL o1 o2 (sc.2 (i + 1)) (hs _)) ?_
  rintro _ c1 h1 ⟨rfl, hg, hl, hf, hx, p1, p2, hv⟩
  refine ⟨by show (0 : Nat) ≠ 4; decide, ?_⟩
  rw [if_neg (by show ¬ (0 : Nat) = 3; decide)]
  obtain ⟨g1, rfl⟩ : ∃ g : mv_H, h1 = mH g v := ⟨h1, mH_of hf⟩
  rw [m76] at p1 p2 hv
  have hk := kk_append W (sc.2 (i + 1))
  show mv_Ev _ _ 171 _ _ _ _ _
  refine e_step (pc' := 173) hK rfl rfl rfl ?_
  try simp only [List.set_cons_zero, List.set_cons_succ]
  refine e_step (pc' := 174) hK rfl rfl rfl ?_
  refine e_step (pc' := 175) hK rfl rfl rfl ?_
  refine e_step (pc' := 177) hK rfl rfl rfl ?_
  refine e_step (pc' := 178) hK rfl rfl rfl ?_
  refine e_step (pc' := 179) hK rfl rfl rfl ?_
  refine e_sil (pc' := 180) hK rfl (by first | omega | assumption | exact hs _) (by first | omega | assumption | exact hs _) rfl ?_
  refine e_cQV2 (z := 108) hK rfl rfl (by first | (simp only [mH_t64, p1, p2]; rfl) | (show _ = 2; assumption) | (show _ = 1; assumption) | (show _ = 0; assumption) | (show _ = 3; assumption) | (show _ = 4; assumption) | exact rfl) rfl (Nat.le_of_ble_eq_true rfl) (Nat.le_of_ble_eq_true rfl) (g_append hM (sc.2 (i + 1)) (hs _)) ?_
  rintro _ _ _ ⟨rfl, rfl, w, rfl, hM2, hw⟩
  refine ⟨by show (0 : Nat) ≠ 4; decide, ?_⟩
  rw [if_neg (by show ¬ (0 : Nat) = 3; decide)]
  have e76 : mH g1 w 276 = g1 276 := m76
  show mv_Ev _ _ 183 _ _ _ _ _
  refine e_step (pc' := 185) hK rfl rfl rfl ?_
  try simp only [List.set_cons_zero, List.set_cons_succ]
  refine e_step (pc' := 186) hK rfl rfl rfl ?_
  refine e_cRV1 (z := 107) (pc' := 189) hK rfl rfl (by first | (simp only [mH_t64, p1, p2, e76]; rfl) | (show _ = 2; assumption) | (show _ = 1; assumption) | (show _ = 0; assumption) | (show _ = 3; assumption) | (show _ = 4; assumption) | exact rfl) rfl (Nat.le_of_ble_eq_true rfl) (Nat.le_of_ble_eq_true rfl) (g_thrown _ hw) (by decide) rfl ?_
  try simp only [mH_t64, p1, p2, e76]
  refine e_step (pc' := 191) hK rfl rfl rfl ?_
  refine e_icmp (t := 196) (pc' := 194) hK rfl (by first | omega | assumption | exact hs _) (by first | omega | assumption | exact hs _) (by decide) rfl (fun hb191 => ?_) (fun hb191 => ?_)
  · replace hb191 := cq_eq.1.mp hb191
    refine e_step (pc' := 198) hK rfl rfl rfl ?_
    refine e_if (t := 213) (pc' := 201) hK rfl (by first | omega | assumption | exact hs _) (by decide) rfl (fun hb198 => ?_) (fun hb198 => ?_)
    · replace hb198 := cq_ne.1.mp hb198
      refine e_goto (t := 1531) hK rfl (by decide) ?_
      exact K _ w g1 _ _ _ ⟨hl.mv, hM2, p1, p2⟩ hg
    · replace hb198 := cq_ne.2.mp hb198
      have ev : (g1 276).2.2 0 = (sp_append W (sc.2 (i + 1))).2.1 := hv (by omega)
      refine e_step (pc' := 202) hK rfl rfl rfl ?_
      refine e_step (pc' := 203) hK rfl rfl rfl ?_
      refine e_lald (pc' := 204) hK rfl (by simp only [mH_t64, p1, p2, e76, ev]) (by first | omega | assumption | exact hs _) (by (try simp only [mH_t64, p1, p2, e76, ev]); first | omega | assumption | exact hs _) rfl ?_
      try simp only [mH_t64, p1, p2, e76, ev]
      refine e_step (pc' := 206) hK rfl rfl rfl ?_
      refine e_i2l (pc' := 207) hK rfl (by first | omega | assumption | exact hs _) rfl ?_
      refine e_lcmp (pc' := 208) hK rfl (by first | omega | assumption | exact hs _) (by first | omega | assumption | exact hs _) rfl ?_
      rw [cL_s]
      refine e_if (t := 213) (pc' := 211) hK rfl (by first | omega | assumption | exact hs _) (by decide) rfl (fun hb208 => ?_) (fun hb208 => ?_)
      · replace hb208 := cq_eq.1.mp hb208
        refine e_goto (t := 1531) hK rfl (by decide) ?_
        exact K _ w g1 _ _ _ ⟨hl.mv, hM2, p1, p2⟩ hg
      · replace hb208 := cq_eq.2.mp hb208
        exfalso; first | omega | exact absurd trivial (by assumption) | (first | omega | assumption | exact hs _)
  · replace hb191 := cq_eq.2.mp hb191
    exfalso; first | omega | exact absurd trivial (by assumption) | (first | omega | assumption | exact hs _)
set_option maxRecDepth 10000 in
theorem r_clear {Q : mv_R → mv_C → mv_H → Prop} {W : wt} {v : mvt} {m o s_ : Nat} (hI : LI W v m h) (hs : ∀ j : Int, mv_i (sc.2 j)) (i : Int) (hi : 0 ≤ i) (hn : i + 4 ≤ sc.1) (a5 a6 : mv_V) (K : ∀ (W1 : wt) (v1 : mvt) (g1 : mv_H) (c1 : mv_C) (b5 b6 : mv_V), LI W1 v1 c1.1 g1 → cgr (m, o, s_) c1 → mv_Ev sc 205 1531 [(4, 0), (2, 0), (2, 264), (2, 276), (0, i), b5, b6] [] c1 (mH g1 v1) Q) : mv_Ev sc 205 216 [(4, 0), (2, 0), (2, 264), (2, 276), (0, i), a5, a6] [] (m, o, s_) (mH h v) Q := by
  obtain ⟨hL, hM, q1, q2⟩ := hI
  have o1 : (mH h v 276).1 = 13 := by { rw [m76]; exact q1 }
  have o2 : (mH h v 276).2.1 = 1 := by { rw [m76]; exact q2 }
  have a0 : (mH h v 0).1 = 0 := hL.1.1.1
  have hK : (mv_m 205).1 = kc_Law_law := rfl
  refine e_step (pc' := 217) hK rfl rfl rfl ?_
  refine e_cQV1 (z := 40) hK rfl rfl (by first | (simp only [mH_t64]; rfl) | (show _ = 2; assumption) | (show _ = 1; assumption) | (show _ = 0; assumption) | (show _ = 3; assumption) | (show _ = 4; assumption) | exact rfl) rfl (Nat.le_of_ble_eq_true rfl) (Nat.le_of_ble_eq_true rfl) (lf_clear hL) ?_
  rintro _ c1 h1 ⟨rfl, hg, hl, hf, hx⟩
  rw [show clr 9 9 (sp_clear W).1 (sp_clear W).2.1 = (0, (sp_clear W).2.1) from rfl]
  refine ⟨by show (0 : Nat) ≠ 4; decide, ?_⟩
  rw [if_neg (by show ¬ (0 : Nat) = 3; decide)]
  obtain ⟨g1, rfl⟩ : ∃ g : mv_H, h1 = mH g v := ⟨h1, mH_of (fun b b0 b1 => hf b b0 (by omega))⟩
  have p1 : (g1 276).1 = 13 := by { rw [← m76 (h := g1) (v := v), hf 276 (by omega) (by omega)]; exact o1 }
  have p2 : (g1 276).2.1 = 1 := by { rw [← m76 (h := g1) (v := v), hf 276 (by omega) (by omega)]; exact o2 }
  show mv_Ev _ _ 220 _ _ _ _ _
  refine e_step (pc' := 221) hK rfl rfl rfl ?_
  refine e_cQV1 (z := 111) hK rfl rfl (by first | (simp only [mH_t64]; rfl) | (show _ = 2; assumption) | (show _ = 1; assumption) | (show _ = 0; assumption) | (show _ = 3; assumption) | (show _ = 4; assumption) | exact rfl) rfl (Nat.le_of_ble_eq_true rfl) (Nat.le_of_ble_eq_true rfl) (g_clear hM) ?_
  rintro _ _ _ ⟨rfl, rfl, w, rfl, hM2⟩
  refine ⟨by show (0 : Nat) ≠ 4; decide, ?_⟩
  rw [if_neg (by show ¬ (0 : Nat) = 3; decide)]
  show mv_Ev _ _ 224 _ _ _ _ _
  refine e_icmp (t := 1531) (pc' := 227) hK rfl (by first | omega | assumption | exact hs _) (by first | omega | assumption | exact hs _) (by decide) rfl (fun hb224 => ?_) (fun hb224 => ?_)
  · replace hb224 := cq_eq.1.mp hb224
    exact K _ w g1 _ _ _ ⟨hl.mv, hM2, p1, p2⟩ hg
  · replace hb224 := cq_eq.2.mp hb224
    exfalso; first | omega | exact absurd trivial (by assumption) | (first | omega | assumption | exact hs _)
set_option maxRecDepth 10000 in
theorem r_error {Q : mv_R → mv_C → mv_H → Prop} {W : wt} {v : mvt} {m o s_ : Nat} (hI : LI W v m h) (hs : ∀ j : Int, mv_i (sc.2 j)) (i : Int) (hi : 0 ≤ i) (hn : i + 4 ≤ sc.1) (a5 a6 : mv_V) (K : ∀ (W1 : wt) (v1 : mvt) (g1 : mv_H) (c1 : mv_C) (b5 b6 : mv_V), LI W1 v1 c1.1 g1 → cgr (m, o, s_) c1 → mv_Ev sc 205 1531 [(4, 0), (2, 0), (2, 264), (2, 276), (0, i), b5, b6] [] c1 (mH g1 v1) Q) : mv_Ev sc 205 229 [(4, 0), (2, 0), (2, 264), (2, 276), (0, i), a5, a6] [] (m, o, s_) (mH h v) Q := by
  obtain ⟨hL, hM, q1, q2⟩ := hI
  have o1 : (mH h v 276).1 = 13 := by { rw [m76]; exact q1 }
  have o2 : (mH h v 276).2.1 = 1 := by { rw [m76]; exact q2 }
  have a0 : (mH h v 0).1 = 0 := hL.1.1.1
  have hK : (mv_m 205).1 = kc_Law_law := rfl
  refine e_step (pc' := 230) hK rfl rfl rfl ?_
  refine e_cQV1 (z := 41) hK rfl rfl (by first | (simp only [mH_t64]; rfl) | (show _ = 2; assumption) | (show _ = 1; assumption) | (show _ = 0; assumption) | (show _ = 3; assumption) | (show _ = 4; assumption) | exact rfl) rfl (Nat.le_of_ble_eq_true rfl) (Nat.le_of_ble_eq_true rfl) (lf_error hL) ?_
  rintro _ c1 h1 ⟨rfl, hg, hl, hf, hx⟩
  rw [show clr 9 9 (sp_error W).1 (sp_error W).2.1 = (0, (sp_error W).2.1) from rfl]
  refine ⟨by show (0 : Nat) ≠ 4; decide, ?_⟩
  rw [if_neg (by show ¬ (0 : Nat) = 3; decide)]
  obtain ⟨g1, rfl⟩ : ∃ g : mv_H, h1 = mH g v := ⟨h1, mH_of (fun b b0 b1 => hf b b0 (by omega))⟩
  have p1 : (g1 276).1 = 13 := by { rw [← m76 (h := g1) (v := v), hf 276 (by omega) (by omega)]; exact o1 }
  have p2 : (g1 276).2.1 = 1 := by { rw [← m76 (h := g1) (v := v), hf 276 (by omega) (by omega)]; exact o2 }
  show mv_Ev _ _ 233 _ _ _ _ _
  refine e_step (pc' := 234) hK rfl rfl rfl ?_
  refine e_cQV1 (z := 112) hK rfl rfl (by first | (simp only [mH_t64]; rfl) | (show _ = 2; assumption) | (show _ = 1; assumption) | (show _ = 0; assumption) | (show _ = 3; assumption) | (show _ = 4; assumption) | exact rfl) rfl (Nat.le_of_ble_eq_true rfl) (Nat.le_of_ble_eq_true rfl) (g_error hM) ?_
  rintro _ _ _ ⟨rfl, rfl, w, rfl, hM2⟩
  refine ⟨by show (0 : Nat) ≠ 4; decide, ?_⟩
  rw [if_neg (by show ¬ (0 : Nat) = 3; decide)]
  show mv_Ev _ _ 237 _ _ _ _ _
  refine e_icmp (t := 1531) (pc' := 240) hK rfl (by first | omega | assumption | exact hs _) (by first | omega | assumption | exact hs _) (by decide) rfl (fun hb237 => ?_) (fun hb237 => ?_)
  · replace hb237 := cq_eq.1.mp hb237
    exact K _ w g1 _ _ _ ⟨hl.mv, hM2, p1, p2⟩ hg
  · replace hb237 := cq_eq.2.mp hb237
    exfalso; first | omega | exact absurd trivial (by assumption) | (first | omega | assumption | exact hs _)
set_option maxRecDepth 10000 in
theorem r_about {Q : mv_R → mv_C → mv_H → Prop} {W : wt} {v : mvt} {m o s_ : Nat} (hI : LI W v m h) (hs : ∀ j : Int, mv_i (sc.2 j)) (i : Int) (hi : 0 ≤ i) (hn : i + 4 ≤ sc.1) (a5 a6 : mv_V) (K : ∀ (W1 : wt) (v1 : mvt) (g1 : mv_H) (c1 : mv_C) (b5 b6 : mv_V), LI W1 v1 c1.1 g1 → cgr (m, o, s_) c1 → mv_Ev sc 205 1531 [(4, 0), (2, 0), (2, 264), (2, 276), (0, i), b5, b6] [] c1 (mH g1 v1) Q) : mv_Ev sc 205 242 [(4, 0), (2, 0), (2, 264), (2, 276), (0, i), a5, a6] [] (m, o, s_) (mH h v) Q := by
  obtain ⟨hL, hM, q1, q2⟩ := hI
  have o1 : (mH h v 276).1 = 13 := by { rw [m76]; exact q1 }
  have o2 : (mH h v 276).2.1 = 1 := by { rw [m76]; exact q2 }
  have a0 : (mH h v 0).1 = 0 := hL.1.1.1
  have hK : (mv_m 205).1 = kc_Law_law := rfl
  refine e_step (pc' := 243) hK rfl rfl rfl ?_
  refine e_step (pc' := 244) hK rfl rfl rfl ?_
  refine e_step (pc' := 246) hK rfl rfl rfl ?_
  refine e_step (pc' := 247) hK rfl rfl rfl ?_
  refine e_step (pc' := 248) hK rfl rfl rfl ?_
  refine e_sil (pc' := 249) hK rfl (by first | omega | assumption | exact hs _) (by first | omega | assumption | exact hs _) rfl ?_
  refine e_step (pc' := 250) hK rfl rfl rfl ?_
  refine e_cQS3 (z := 186) hK rfl rfl rfl (Nat.le_of_ble_eq_true rfl) (Nat.le_of_ble_eq_true rfl) (w_about hL o1 o2 (sc.2 (i + 1)) (hs _)) ?_
  rintro _ c1 h1 ⟨rfl, hg, hl, hf, hx, p1, p2, hv⟩
  refine ⟨by show (0 : Nat) ≠ 4; decide, ?_⟩
  rw [if_neg (by show ¬ (0 : Nat) = 3; decide)]
  obtain ⟨g1, rfl⟩ : ∃ g : mv_H, h1 = mH g v := ⟨h1, mH_of hf⟩
  rw [m76] at p1 p2 hv
  have hk := kk_about W (sc.2 (i + 1))
  show mv_Ev _ _ 253 _ _ _ _ _
  refine e_step (pc' := 255) hK rfl rfl rfl ?_
  try simp only [List.set_cons_zero, List.set_cons_succ]
  refine e_step (pc' := 256) hK rfl rfl rfl ?_
  refine e_step (pc' := 257) hK rfl rfl rfl ?_
  refine e_step (pc' := 259) hK rfl rfl rfl ?_
  refine e_step (pc' := 260) hK rfl rfl rfl ?_
  refine e_step (pc' := 261) hK rfl rfl rfl ?_
  refine e_sil (pc' := 262) hK rfl (by first | omega | assumption | exact hs _) (by first | omega | assumption | exact hs _) rfl ?_
  refine e_cQV2 (z := 115) hK rfl rfl (by first | (simp only [mH_t64, p1, p2]; rfl) | (show _ = 2; assumption) | (show _ = 1; assumption) | (show _ = 0; assumption) | (show _ = 3; assumption) | (show _ = 4; assumption) | exact rfl) rfl (Nat.le_of_ble_eq_true rfl) (Nat.le_of_ble_eq_true rfl) (g_about hM (sc.2 (i + 1)) (hs _)) ?_
  rintro _ _ _ ⟨rfl, rfl, w, rfl, hM2, hw⟩
  refine ⟨by show (0 : Nat) ≠ 4; decide, ?_⟩
  rw [if_neg (by show ¬ (0 : Nat) = 3; decide)]
  have e76 : mH g1 w 276 = g1 276 := m76
  show mv_Ev _ _ 265 _ _ _ _ _
  refine e_step (pc' := 267) hK rfl rfl rfl ?_
  try simp only [List.set_cons_zero, List.set_cons_succ]
  refine e_step (pc' := 268) hK rfl rfl rfl ?_
  refine e_cRV1 (z := 107) (pc' := 271) hK rfl rfl (by first | (simp only [mH_t64, p1, p2, e76]; rfl) | (show _ = 2; assumption) | (show _ = 1; assumption) | (show _ = 0; assumption) | (show _ = 3; assumption) | (show _ = 4; assumption) | exact rfl) rfl (Nat.le_of_ble_eq_true rfl) (Nat.le_of_ble_eq_true rfl) (g_thrown _ hw) (by decide) rfl ?_
  try simp only [mH_t64, p1, p2, e76]
  refine e_step (pc' := 273) hK rfl rfl rfl ?_
  refine e_icmp (t := 278) (pc' := 276) hK rfl (by first | omega | assumption | exact hs _) (by first | omega | assumption | exact hs _) (by decide) rfl (fun hb273 => ?_) (fun hb273 => ?_)
  · replace hb273 := cq_eq.1.mp hb273
    refine e_step (pc' := 280) hK rfl rfl rfl ?_
    refine e_if (t := 295) (pc' := 283) hK rfl (by first | omega | assumption | exact hs _) (by decide) rfl (fun hb280 => ?_) (fun hb280 => ?_)
    · replace hb280 := cq_ne.1.mp hb280
      refine e_goto (t := 1531) hK rfl (by decide) ?_
      exact K _ w g1 _ _ _ ⟨hl.mv, hM2, p1, p2⟩ hg
    · replace hb280 := cq_ne.2.mp hb280
      have ev : (g1 276).2.2 0 = (sp_about W (sc.2 (i + 1))).2.1 := hv (by omega)
      refine e_step (pc' := 284) hK rfl rfl rfl ?_
      refine e_step (pc' := 285) hK rfl rfl rfl ?_
      refine e_lald (pc' := 286) hK rfl (by simp only [mH_t64, p1, p2, e76, ev]) (by first | omega | assumption | exact hs _) (by (try simp only [mH_t64, p1, p2, e76, ev]); first | omega | assumption | exact hs _) rfl ?_
      try simp only [mH_t64, p1, p2, e76, ev]
      refine e_step (pc' := 288) hK rfl rfl rfl ?_
      refine e_i2l (pc' := 289) hK rfl (by first | omega | assumption | exact hs _) rfl ?_
      refine e_lcmp (pc' := 290) hK rfl (by first | omega | assumption | exact hs _) (by first | omega | assumption | exact hs _) rfl ?_
      rw [cL_s]
      refine e_if (t := 295) (pc' := 293) hK rfl (by first | omega | assumption | exact hs _) (by decide) rfl (fun hb290 => ?_) (fun hb290 => ?_)
      · replace hb290 := cq_eq.1.mp hb290
        refine e_goto (t := 1531) hK rfl (by decide) ?_
        exact K _ w g1 _ _ _ ⟨hl.mv, hM2, p1, p2⟩ hg
      · replace hb290 := cq_eq.2.mp hb290
        exfalso; first | omega | exact absurd trivial (by assumption) | (first | omega | assumption | exact hs _)
  · replace hb273 := cq_eq.2.mp hb273
    exfalso; first | omega | exact absurd trivial (by assumption) | (first | omega | assumption | exact hs _)
set_option maxRecDepth 10000 in
theorem r_line {Q : mv_R → mv_C → mv_H → Prop} {W : wt} {v : mvt} {m o s_ : Nat} (hI : LI W v m h) (hs : ∀ j : Int, mv_i (sc.2 j)) (i : Int) (hi : 0 ≤ i) (hn : i + 4 ≤ sc.1) (a5 a6 : mv_V) (K : ∀ (W1 : wt) (v1 : mvt) (g1 : mv_H) (c1 : mv_C) (b5 b6 : mv_V), LI W1 v1 c1.1 g1 → cgr (m, o, s_) c1 → mv_Ev sc 205 1531 [(4, 0), (2, 0), (2, 264), (2, 276), (0, i), b5, b6] [] c1 (mH g1 v1) Q) : mv_Ev sc 205 298 [(4, 0), (2, 0), (2, 264), (2, 276), (0, i), a5, a6] [] (m, o, s_) (mH h v) Q := by
  obtain ⟨hL, hM, q1, q2⟩ := hI
  have o1 : (mH h v 276).1 = 13 := by { rw [m76]; exact q1 }
  have o2 : (mH h v 276).2.1 = 1 := by { rw [m76]; exact q2 }
  have a0 : (mH h v 0).1 = 0 := hL.1.1.1
  have hK : (mv_m 205).1 = kc_Law_law := rfl
  refine e_step (pc' := 299) hK rfl rfl rfl ?_
  refine e_step (pc' := 300) hK rfl rfl rfl ?_
  refine e_step (pc' := 302) hK rfl rfl rfl ?_
  refine e_step (pc' := 303) hK rfl rfl rfl ?_
  refine e_step (pc' := 304) hK rfl rfl rfl ?_
  refine e_sil (pc' := 305) hK rfl (by first | omega | assumption | exact hs _) (by first | omega | assumption | exact hs _) rfl ?_
  refine e_step (pc' := 306) hK rfl rfl rfl ?_
  refine e_step (pc' := 308) hK rfl rfl rfl ?_
  refine e_step (pc' := 309) hK rfl rfl rfl ?_
  refine e_step (pc' := 310) hK rfl rfl rfl ?_
  refine e_sil (pc' := 311) hK rfl (by first | omega | assumption | exact hs _) (by first | omega | assumption | exact hs _) rfl ?_
  refine e_step (pc' := 312) hK rfl rfl rfl ?_
  refine e_cQS4 (z := 187) hK rfl rfl rfl (Nat.le_of_ble_eq_true rfl) (Nat.le_of_ble_eq_true rfl) (w_line hL o1 o2 (sc.2 (i + 1)) (hs _) (sc.2 (i + 2)) (hs _)) ?_
  rintro _ c1 h1 ⟨rfl, hg, hl, hf, hx, p1, p2, hv⟩
  refine ⟨by show (0 : Nat) ≠ 4; decide, ?_⟩
  rw [if_neg (by show ¬ (0 : Nat) = 3; decide)]
  obtain ⟨g1, rfl⟩ : ∃ g : mv_H, h1 = mH g v := ⟨h1, mH_of hf⟩
  rw [m76] at p1 p2 hv
  have hk := kk_line W (sc.2 (i + 1)) (sc.2 (i + 2))
  show mv_Ev _ _ 315 _ _ _ _ _
  refine e_step (pc' := 317) hK rfl rfl rfl ?_
  try simp only [List.set_cons_zero, List.set_cons_succ]
  refine e_step (pc' := 318) hK rfl rfl rfl ?_
  refine e_step (pc' := 319) hK rfl rfl rfl ?_
  refine e_step (pc' := 321) hK rfl rfl rfl ?_
  refine e_step (pc' := 322) hK rfl rfl rfl ?_
  refine e_step (pc' := 323) hK rfl rfl rfl ?_
  refine e_sil (pc' := 324) hK rfl (by first | omega | assumption | exact hs _) (by first | omega | assumption | exact hs _) rfl ?_
  refine e_step (pc' := 325) hK rfl rfl rfl ?_
  refine e_step (pc' := 327) hK rfl rfl rfl ?_
  refine e_step (pc' := 328) hK rfl rfl rfl ?_
  refine e_step (pc' := 329) hK rfl rfl rfl ?_
  refine e_sil (pc' := 330) hK rfl (by first | omega | assumption | exact hs _) (by first | omega | assumption | exact hs _) rfl ?_
  refine e_cQV3 (z := 133) hK rfl rfl (by first | (simp only [mH_t64, p1, p2]; rfl) | (show _ = 2; assumption) | (show _ = 1; assumption) | (show _ = 0; assumption) | (show _ = 3; assumption) | (show _ = 4; assumption) | exact rfl) rfl (Nat.le_of_ble_eq_true rfl) (Nat.le_of_ble_eq_true rfl) (g_line hM (sc.2 (i + 1)) (hs _) (sc.2 (i + 2)) (hs _)) ?_
  rintro _ _ _ ⟨rfl, rfl, w, rfl, hM2, hw⟩
  refine ⟨by show (0 : Nat) ≠ 4; decide, ?_⟩
  rw [if_neg (by show ¬ (0 : Nat) = 3; decide)]
  have e76 : mH g1 w 276 = g1 276 := m76
  show mv_Ev _ _ 333 _ _ _ _ _
  refine e_step (pc' := 335) hK rfl rfl rfl ?_
  try simp only [List.set_cons_zero, List.set_cons_succ]
  refine e_step (pc' := 336) hK rfl rfl rfl ?_
  refine e_cRV1 (z := 107) (pc' := 339) hK rfl rfl (by first | (simp only [mH_t64, p1, p2, e76]; rfl) | (show _ = 2; assumption) | (show _ = 1; assumption) | (show _ = 0; assumption) | (show _ = 3; assumption) | (show _ = 4; assumption) | exact rfl) rfl (Nat.le_of_ble_eq_true rfl) (Nat.le_of_ble_eq_true rfl) (g_thrown _ hw) (by decide) rfl ?_
  try simp only [mH_t64, p1, p2, e76]
  refine e_step (pc' := 341) hK rfl rfl rfl ?_
  refine e_icmp (t := 346) (pc' := 344) hK rfl (by first | omega | assumption | exact hs _) (by first | omega | assumption | exact hs _) (by decide) rfl (fun hb341 => ?_) (fun hb341 => ?_)
  · replace hb341 := cq_eq.1.mp hb341
    refine e_step (pc' := 348) hK rfl rfl rfl ?_
    refine e_if (t := 363) (pc' := 351) hK rfl (by first | omega | assumption | exact hs _) (by decide) rfl (fun hb348 => ?_) (fun hb348 => ?_)
    · replace hb348 := cq_ne.1.mp hb348
      refine e_goto (t := 1531) hK rfl (by decide) ?_
      exact K _ w g1 _ _ _ ⟨hl.mv, hM2, p1, p2⟩ hg
    · replace hb348 := cq_ne.2.mp hb348
      have ev : (g1 276).2.2 0 = (sp_line W (sc.2 (i + 1)) (sc.2 (i + 2))).2.1 := hv (by omega)
      refine e_step (pc' := 352) hK rfl rfl rfl ?_
      refine e_step (pc' := 353) hK rfl rfl rfl ?_
      refine e_lald (pc' := 354) hK rfl (by simp only [mH_t64, p1, p2, e76, ev]) (by first | omega | assumption | exact hs _) (by (try simp only [mH_t64, p1, p2, e76, ev]); first | omega | assumption | exact hs _) rfl ?_
      try simp only [mH_t64, p1, p2, e76, ev]
      refine e_step (pc' := 356) hK rfl rfl rfl ?_
      refine e_i2l (pc' := 357) hK rfl (by first | omega | assumption | exact hs _) rfl ?_
      refine e_lcmp (pc' := 358) hK rfl (by first | omega | assumption | exact hs _) (by first | omega | assumption | exact hs _) rfl ?_
      rw [cL_s]
      refine e_if (t := 363) (pc' := 361) hK rfl (by first | omega | assumption | exact hs _) (by decide) rfl (fun hb358 => ?_) (fun hb358 => ?_)
      · replace hb358 := cq_eq.1.mp hb358
        refine e_goto (t := 1531) hK rfl (by decide) ?_
        exact K _ w g1 _ _ _ ⟨hl.mv, hM2, p1, p2⟩ hg
      · replace hb358 := cq_eq.2.mp hb358
        exfalso; first | omega | exact absurd trivial (by assumption) | (first | omega | assumption | exact hs _)
  · replace hb341 := cq_eq.2.mp hb341
    exfalso; first | omega | exact absurd trivial (by assumption) | (first | omega | assumption | exact hs _)
set_option maxRecDepth 10000 in
theorem r_charAt {Q : mv_R → mv_C → mv_H → Prop} {W : wt} {v : mvt} {m o s_ : Nat} (hI : LI W v m h) (hs : ∀ j : Int, mv_i (sc.2 j)) (i : Int) (hi : 0 ≤ i) (hn : i + 4 ≤ sc.1) (a5 a6 : mv_V) (K : ∀ (W1 : wt) (v1 : mvt) (g1 : mv_H) (c1 : mv_C) (b5 b6 : mv_V), LI W1 v1 c1.1 g1 → cgr (m, o, s_) c1 → mv_Ev sc 205 1531 [(4, 0), (2, 0), (2, 264), (2, 276), (0, i), b5, b6] [] c1 (mH g1 v1) Q) : mv_Ev sc 205 366 [(4, 0), (2, 0), (2, 264), (2, 276), (0, i), a5, a6] [] (m, o, s_) (mH h v) Q := by
  obtain ⟨hL, hM, q1, q2⟩ := hI
  have o1 : (mH h v 276).1 = 13 := by { rw [m76]; exact q1 }
  have o2 : (mH h v 276).2.1 = 1 := by { rw [m76]; exact q2 }
  have a0 : (mH h v 0).1 = 0 := hL.1.1.1
  have hK : (mv_m 205).1 = kc_Law_law := rfl
  refine e_step (pc' := 367) hK rfl rfl rfl ?_
  refine e_step (pc' := 368) hK rfl rfl rfl ?_
  refine e_step (pc' := 370) hK rfl rfl rfl ?_
  refine e_step (pc' := 371) hK rfl rfl rfl ?_
  refine e_step (pc' := 372) hK rfl rfl rfl ?_
  refine e_sil (pc' := 373) hK rfl (by first | omega | assumption | exact hs _) (by first | omega | assumption | exact hs _) rfl ?_
  refine e_step (pc' := 374) hK rfl rfl rfl ?_
  refine e_step (pc' := 376) hK rfl rfl rfl ?_
  refine e_step (pc' := 377) hK rfl rfl rfl ?_
  refine e_step (pc' := 378) hK rfl rfl rfl ?_
  refine e_sil (pc' := 379) hK rfl (by first | omega | assumption | exact hs _) (by first | omega | assumption | exact hs _) rfl ?_
  refine e_step (pc' := 380) hK rfl rfl rfl ?_
  refine e_cQS4 (z := 188) hK rfl rfl rfl (Nat.le_of_ble_eq_true rfl) (Nat.le_of_ble_eq_true rfl) (w_charAt hL o1 o2 (sc.2 (i + 1)) (hs _) (sc.2 (i + 2)) (hs _)) ?_
  rintro _ c1 h1 ⟨rfl, hg, hl, hf, hx, p1, p2, hv⟩
  refine ⟨by show (0 : Nat) ≠ 4; decide, ?_⟩
  rw [if_neg (by show ¬ (0 : Nat) = 3; decide)]
  obtain ⟨g1, rfl⟩ : ∃ g : mv_H, h1 = mH g v := ⟨h1, mH_of hf⟩
  rw [m76] at p1 p2 hv
  have hk := kk_charAt W (sc.2 (i + 1)) (sc.2 (i + 2))
  show mv_Ev _ _ 383 _ _ _ _ _
  refine e_step (pc' := 385) hK rfl rfl rfl ?_
  try simp only [List.set_cons_zero, List.set_cons_succ]
  refine e_step (pc' := 386) hK rfl rfl rfl ?_
  refine e_step (pc' := 387) hK rfl rfl rfl ?_
  refine e_step (pc' := 389) hK rfl rfl rfl ?_
  refine e_step (pc' := 390) hK rfl rfl rfl ?_
  refine e_step (pc' := 391) hK rfl rfl rfl ?_
  refine e_sil (pc' := 392) hK rfl (by first | omega | assumption | exact hs _) (by first | omega | assumption | exact hs _) rfl ?_
  refine e_step (pc' := 393) hK rfl rfl rfl ?_
  refine e_step (pc' := 395) hK rfl rfl rfl ?_
  refine e_step (pc' := 396) hK rfl rfl rfl ?_
  refine e_step (pc' := 397) hK rfl rfl rfl ?_
  refine e_sil (pc' := 398) hK rfl (by first | omega | assumption | exact hs _) (by first | omega | assumption | exact hs _) rfl ?_
  refine e_cQV3 (z := 136) hK rfl rfl (by first | (simp only [mH_t64, p1, p2]; rfl) | (show _ = 2; assumption) | (show _ = 1; assumption) | (show _ = 0; assumption) | (show _ = 3; assumption) | (show _ = 4; assumption) | exact rfl) rfl (Nat.le_of_ble_eq_true rfl) (Nat.le_of_ble_eq_true rfl) (g_charAt hM (sc.2 (i + 1)) (hs _) (sc.2 (i + 2)) (hs _)) ?_
  rintro _ _ _ ⟨rfl, rfl, w, rfl, hM2, hw⟩
  refine ⟨by show (0 : Nat) ≠ 4; decide, ?_⟩
  rw [if_neg (by show ¬ (0 : Nat) = 3; decide)]
  have e76 : mH g1 w 276 = g1 276 := m76
  show mv_Ev _ _ 401 _ _ _ _ _
  refine e_step (pc' := 403) hK rfl rfl rfl ?_
  try simp only [List.set_cons_zero, List.set_cons_succ]
  refine e_step (pc' := 404) hK rfl rfl rfl ?_
  refine e_cRV1 (z := 107) (pc' := 407) hK rfl rfl (by first | (simp only [mH_t64, p1, p2, e76]; rfl) | (show _ = 2; assumption) | (show _ = 1; assumption) | (show _ = 0; assumption) | (show _ = 3; assumption) | (show _ = 4; assumption) | exact rfl) rfl (Nat.le_of_ble_eq_true rfl) (Nat.le_of_ble_eq_true rfl) (g_thrown _ hw) (by decide) rfl ?_
  try simp only [mH_t64, p1, p2, e76]
  refine e_step (pc' := 409) hK rfl rfl rfl ?_
  refine e_icmp (t := 414) (pc' := 412) hK rfl (by first | omega | assumption | exact hs _) (by first | omega | assumption | exact hs _) (by decide) rfl (fun hb409 => ?_) (fun hb409 => ?_)
  · replace hb409 := cq_eq.1.mp hb409
    refine e_step (pc' := 416) hK rfl rfl rfl ?_
    refine e_if (t := 431) (pc' := 419) hK rfl (by first | omega | assumption | exact hs _) (by decide) rfl (fun hb416 => ?_) (fun hb416 => ?_)
    · replace hb416 := cq_ne.1.mp hb416
      refine e_goto (t := 1531) hK rfl (by decide) ?_
      exact K _ w g1 _ _ _ ⟨hl.mv, hM2, p1, p2⟩ hg
    · replace hb416 := cq_ne.2.mp hb416
      have ev : (g1 276).2.2 0 = (sp_charAt W (sc.2 (i + 1)) (sc.2 (i + 2))).2.1 := hv (by omega)
      refine e_step (pc' := 420) hK rfl rfl rfl ?_
      refine e_step (pc' := 421) hK rfl rfl rfl ?_
      refine e_lald (pc' := 422) hK rfl (by simp only [mH_t64, p1, p2, e76, ev]) (by first | omega | assumption | exact hs _) (by (try simp only [mH_t64, p1, p2, e76, ev]); first | omega | assumption | exact hs _) rfl ?_
      try simp only [mH_t64, p1, p2, e76, ev]
      refine e_step (pc' := 424) hK rfl rfl rfl ?_
      refine e_i2l (pc' := 425) hK rfl (by first | omega | assumption | exact hs _) rfl ?_
      refine e_lcmp (pc' := 426) hK rfl (by first | omega | assumption | exact hs _) (by first | omega | assumption | exact hs _) rfl ?_
      rw [cL_s]
      refine e_if (t := 431) (pc' := 429) hK rfl (by first | omega | assumption | exact hs _) (by decide) rfl (fun hb426 => ?_) (fun hb426 => ?_)
      · replace hb426 := cq_eq.1.mp hb426
        refine e_goto (t := 1531) hK rfl (by decide) ?_
        exact K _ w g1 _ _ _ ⟨hl.mv, hM2, p1, p2⟩ hg
      · replace hb426 := cq_eq.2.mp hb426
        exfalso; first | omega | exact absurd trivial (by assumption) | (first | omega | assumption | exact hs _)
  · replace hb409 := cq_eq.2.mp hb409
    exfalso; first | omega | exact absurd trivial (by assumption) | (first | omega | assumption | exact hs _)
set_option maxRecDepth 10000 in
theorem r_value {Q : mv_R → mv_C → mv_H → Prop} {W : wt} {v : mvt} {m o s_ : Nat} (hI : LI W v m h) (hs : ∀ j : Int, mv_i (sc.2 j)) (i : Int) (hi : 0 ≤ i) (hn : i + 4 ≤ sc.1) (a5 a6 : mv_V) (K : ∀ (W1 : wt) (v1 : mvt) (g1 : mv_H) (c1 : mv_C) (b5 b6 : mv_V), LI W1 v1 c1.1 g1 → cgr (m, o, s_) c1 → mv_Ev sc 205 1531 [(4, 0), (2, 0), (2, 264), (2, 276), (0, i), b5, b6] [] c1 (mH g1 v1) Q) : mv_Ev sc 205 434 [(4, 0), (2, 0), (2, 264), (2, 276), (0, i), a5, a6] [] (m, o, s_) (mH h v) Q := by
  obtain ⟨hL, hM, q1, q2⟩ := hI
  have o1 : (mH h v 276).1 = 13 := by { rw [m76]; exact q1 }
  have o2 : (mH h v 276).2.1 = 1 := by { rw [m76]; exact q2 }
  have a0 : (mH h v 0).1 = 0 := hL.1.1.1
  have hK : (mv_m 205).1 = kc_Law_law := rfl
  refine e_step (pc' := 435) hK rfl rfl rfl ?_
  refine e_step (pc' := 436) hK rfl rfl rfl ?_
  refine e_step (pc' := 438) hK rfl rfl rfl ?_
  refine e_step (pc' := 439) hK rfl rfl rfl ?_
  refine e_step (pc' := 440) hK rfl rfl rfl ?_
  refine e_sil (pc' := 441) hK rfl (by first | omega | assumption | exact hs _) (by first | omega | assumption | exact hs _) rfl ?_
  refine e_step (pc' := 442) hK rfl rfl rfl ?_
  refine e_step (pc' := 444) hK rfl rfl rfl ?_
  refine e_step (pc' := 445) hK rfl rfl rfl ?_
  refine e_step (pc' := 446) hK rfl rfl rfl ?_
  refine e_sil (pc' := 447) hK rfl (by first | omega | assumption | exact hs _) (by first | omega | assumption | exact hs _) rfl ?_
  refine e_step (pc' := 448) hK rfl rfl rfl ?_
  refine e_cQS4 (z := 189) hK rfl rfl rfl (Nat.le_of_ble_eq_true rfl) (Nat.le_of_ble_eq_true rfl) (w_value hL o1 o2 (sc.2 (i + 1)) (hs _) (sc.2 (i + 2)) (hs _)) ?_
  rintro _ c1 h1 ⟨rfl, hg, hl, hf, hx, p1, p2, hv⟩
  refine ⟨by show (0 : Nat) ≠ 4; decide, ?_⟩
  rw [if_neg (by show ¬ (0 : Nat) = 3; decide)]
  obtain ⟨g1, rfl⟩ : ∃ g : mv_H, h1 = mH g v := ⟨h1, mH_of hf⟩
  rw [m76] at p1 p2 hv
  have hk := kk_value W (sc.2 (i + 1)) (sc.2 (i + 2))
  show mv_Ev _ _ 451 _ _ _ _ _
  refine e_step (pc' := 453) hK rfl rfl rfl ?_
  try simp only [List.set_cons_zero, List.set_cons_succ]
  refine e_step (pc' := 454) hK rfl rfl rfl ?_
  refine e_step (pc' := 455) hK rfl rfl rfl ?_
  refine e_step (pc' := 457) hK rfl rfl rfl ?_
  refine e_step (pc' := 458) hK rfl rfl rfl ?_
  refine e_step (pc' := 459) hK rfl rfl rfl ?_
  refine e_sil (pc' := 460) hK rfl (by first | omega | assumption | exact hs _) (by first | omega | assumption | exact hs _) rfl ?_
  refine e_step (pc' := 461) hK rfl rfl rfl ?_
  refine e_step (pc' := 463) hK rfl rfl rfl ?_
  refine e_step (pc' := 464) hK rfl rfl rfl ?_
  refine e_step (pc' := 465) hK rfl rfl rfl ?_
  refine e_sil (pc' := 466) hK rfl (by first | omega | assumption | exact hs _) (by first | omega | assumption | exact hs _) rfl ?_
  refine e_cQV3 (z := 137) hK rfl rfl (by first | (simp only [mH_t64, p1, p2]; rfl) | (show _ = 2; assumption) | (show _ = 1; assumption) | (show _ = 0; assumption) | (show _ = 3; assumption) | (show _ = 4; assumption) | exact rfl) rfl (Nat.le_of_ble_eq_true rfl) (Nat.le_of_ble_eq_true rfl) (g_value hM (sc.2 (i + 1)) (hs _) (sc.2 (i + 2)) (hs _)) ?_
  rintro _ _ _ ⟨rfl, rfl, w, rfl, hM2, hw⟩
  refine ⟨by show (0 : Nat) ≠ 4; decide, ?_⟩
  rw [if_neg (by show ¬ (0 : Nat) = 3; decide)]
  have e76 : mH g1 w 276 = g1 276 := m76
  show mv_Ev _ _ 469 _ _ _ _ _
  refine e_step (pc' := 471) hK rfl rfl rfl ?_
  try simp only [List.set_cons_zero, List.set_cons_succ]
  refine e_step (pc' := 472) hK rfl rfl rfl ?_
  refine e_cRV1 (z := 107) (pc' := 475) hK rfl rfl (by first | (simp only [mH_t64, p1, p2, e76]; rfl) | (show _ = 2; assumption) | (show _ = 1; assumption) | (show _ = 0; assumption) | (show _ = 3; assumption) | (show _ = 4; assumption) | exact rfl) rfl (Nat.le_of_ble_eq_true rfl) (Nat.le_of_ble_eq_true rfl) (g_thrown _ hw) (by decide) rfl ?_
  try simp only [mH_t64, p1, p2, e76]
  refine e_step (pc' := 477) hK rfl rfl rfl ?_
  refine e_icmp (t := 482) (pc' := 480) hK rfl (by first | omega | assumption | exact hs _) (by first | omega | assumption | exact hs _) (by decide) rfl (fun hb477 => ?_) (fun hb477 => ?_)
  · replace hb477 := cq_eq.1.mp hb477
    refine e_step (pc' := 484) hK rfl rfl rfl ?_
    refine e_if (t := 499) (pc' := 487) hK rfl (by first | omega | assumption | exact hs _) (by decide) rfl (fun hb484 => ?_) (fun hb484 => ?_)
    · replace hb484 := cq_ne.1.mp hb484
      refine e_goto (t := 1531) hK rfl (by decide) ?_
      exact K _ w g1 _ _ _ ⟨hl.mv, hM2, p1, p2⟩ hg
    · replace hb484 := cq_ne.2.mp hb484
      have ev : (g1 276).2.2 0 = (sp_value W (sc.2 (i + 1)) (sc.2 (i + 2))).2.1 := hv (by omega)
      refine e_step (pc' := 488) hK rfl rfl rfl ?_
      refine e_step (pc' := 489) hK rfl rfl rfl ?_
      refine e_lald (pc' := 490) hK rfl (by simp only [mH_t64, p1, p2, e76, ev]) (by first | omega | assumption | exact hs _) (by (try simp only [mH_t64, p1, p2, e76, ev]); first | omega | assumption | exact hs _) rfl ?_
      try simp only [mH_t64, p1, p2, e76, ev]
      refine e_step (pc' := 492) hK rfl rfl rfl ?_
      refine e_i2l (pc' := 493) hK rfl (by first | omega | assumption | exact hs _) rfl ?_
      refine e_lcmp (pc' := 494) hK rfl (by first | omega | assumption | exact hs _) (by first | omega | assumption | exact hs _) rfl ?_
      rw [cL_s]
      refine e_if (t := 499) (pc' := 497) hK rfl (by first | omega | assumption | exact hs _) (by decide) rfl (fun hb494 => ?_) (fun hb494 => ?_)
      · replace hb494 := cq_eq.1.mp hb494
        refine e_goto (t := 1531) hK rfl (by decide) ?_
        exact K _ w g1 _ _ _ ⟨hl.mv, hM2, p1, p2⟩ hg
      · replace hb494 := cq_eq.2.mp hb494
        exfalso; first | omega | exact absurd trivial (by assumption) | (first | omega | assumption | exact hs _)
  · replace hb477 := cq_eq.2.mp hb477
    exfalso; first | omega | exact absurd trivial (by assumption) | (first | omega | assumption | exact hs _)
set_option maxRecDepth 10000 in
theorem r_template {Q : mv_R → mv_C → mv_H → Prop} {W : wt} {v : mvt} {m o s_ : Nat} (hI : LI W v m h) (hs : ∀ j : Int, mv_i (sc.2 j)) (i : Int) (hi : 0 ≤ i) (hn : i + 4 ≤ sc.1) (a5 a6 : mv_V) (K : ∀ (W1 : wt) (v1 : mvt) (g1 : mv_H) (c1 : mv_C) (b5 b6 : mv_V), LI W1 v1 c1.1 g1 → cgr (m, o, s_) c1 → mv_Ev sc 205 1531 [(4, 0), (2, 0), (2, 264), (2, 276), (0, i), b5, b6] [] c1 (mH g1 v1) Q) : mv_Ev sc 205 502 [(4, 0), (2, 0), (2, 264), (2, 276), (0, i), a5, a6] [] (m, o, s_) (mH h v) Q := by
  obtain ⟨hL, hM, q1, q2⟩ := hI
  have o1 : (mH h v 276).1 = 13 := by { rw [m76]; exact q1 }
  have o2 : (mH h v 276).2.1 = 1 := by { rw [m76]; exact q2 }
  have a0 : (mH h v 0).1 = 0 := hL.1.1.1
  have hK : (mv_m 205).1 = kc_Law_law := rfl
  refine e_step (pc' := 503) hK rfl rfl rfl ?_
  refine e_step (pc' := 504) hK rfl rfl rfl ?_
  refine e_step (pc' := 506) hK rfl rfl rfl ?_
  refine e_step (pc' := 507) hK rfl rfl rfl ?_
  refine e_step (pc' := 508) hK rfl rfl rfl ?_
  refine e_sil (pc' := 509) hK rfl (by first | omega | assumption | exact hs _) (by first | omega | assumption | exact hs _) rfl ?_
  refine e_step (pc' := 510) hK rfl rfl rfl ?_
  refine e_step (pc' := 512) hK rfl rfl rfl ?_
  refine e_step (pc' := 513) hK rfl rfl rfl ?_
  refine e_step (pc' := 514) hK rfl rfl rfl ?_
  refine e_sil (pc' := 515) hK rfl (by first | omega | assumption | exact hs _) (by first | omega | assumption | exact hs _) rfl ?_
  refine e_step (pc' := 516) hK rfl rfl rfl ?_
  refine e_cQS4 (z := 190) hK rfl rfl rfl (Nat.le_of_ble_eq_true rfl) (Nat.le_of_ble_eq_true rfl) (w_template hL o1 o2 (sc.2 (i + 1)) (hs _) (sc.2 (i + 2)) (hs _)) ?_
  rintro _ c1 h1 ⟨rfl, hg, hl, hf, hx, p1, p2, hv⟩
  refine ⟨by show (0 : Nat) ≠ 4; decide, ?_⟩
  rw [if_neg (by show ¬ (0 : Nat) = 3; decide)]
  obtain ⟨g1, rfl⟩ : ∃ g : mv_H, h1 = mH g v := ⟨h1, mH_of hf⟩
  rw [m76] at p1 p2 hv
  have hk := kk_template W (sc.2 (i + 1)) (sc.2 (i + 2))
  show mv_Ev _ _ 519 _ _ _ _ _
  refine e_step (pc' := 521) hK rfl rfl rfl ?_
  try simp only [List.set_cons_zero, List.set_cons_succ]
  refine e_step (pc' := 522) hK rfl rfl rfl ?_
  refine e_step (pc' := 523) hK rfl rfl rfl ?_
  refine e_step (pc' := 525) hK rfl rfl rfl ?_
  refine e_step (pc' := 526) hK rfl rfl rfl ?_
  refine e_step (pc' := 527) hK rfl rfl rfl ?_
  refine e_sil (pc' := 528) hK rfl (by first | omega | assumption | exact hs _) (by first | omega | assumption | exact hs _) rfl ?_
  refine e_step (pc' := 529) hK rfl rfl rfl ?_
  refine e_step (pc' := 531) hK rfl rfl rfl ?_
  refine e_step (pc' := 532) hK rfl rfl rfl ?_
  refine e_step (pc' := 533) hK rfl rfl rfl ?_
  refine e_sil (pc' := 534) hK rfl (by first | omega | assumption | exact hs _) (by first | omega | assumption | exact hs _) rfl ?_
  refine e_cQV3 (z := 138) hK rfl rfl (by first | (simp only [mH_t64, p1, p2]; rfl) | (show _ = 2; assumption) | (show _ = 1; assumption) | (show _ = 0; assumption) | (show _ = 3; assumption) | (show _ = 4; assumption) | exact rfl) rfl (Nat.le_of_ble_eq_true rfl) (Nat.le_of_ble_eq_true rfl) (g_template hM (sc.2 (i + 1)) (hs _) (sc.2 (i + 2)) (hs _)) ?_
  rintro _ _ _ ⟨rfl, rfl, w, rfl, hM2, hw⟩
  refine ⟨by show (0 : Nat) ≠ 4; decide, ?_⟩
  rw [if_neg (by show ¬ (0 : Nat) = 3; decide)]
  have e76 : mH g1 w 276 = g1 276 := m76
  show mv_Ev _ _ 537 _ _ _ _ _
  refine e_step (pc' := 539) hK rfl rfl rfl ?_
  try simp only [List.set_cons_zero, List.set_cons_succ]
  refine e_step (pc' := 540) hK rfl rfl rfl ?_
  refine e_cRV1 (z := 107) (pc' := 543) hK rfl rfl (by first | (simp only [mH_t64, p1, p2, e76]; rfl) | (show _ = 2; assumption) | (show _ = 1; assumption) | (show _ = 0; assumption) | (show _ = 3; assumption) | (show _ = 4; assumption) | exact rfl) rfl (Nat.le_of_ble_eq_true rfl) (Nat.le_of_ble_eq_true rfl) (g_thrown _ hw) (by decide) rfl ?_
  try simp only [mH_t64, p1, p2, e76]
  refine e_step (pc' := 545) hK rfl rfl rfl ?_
  refine e_icmp (t := 550) (pc' := 548) hK rfl (by first | omega | assumption | exact hs _) (by first | omega | assumption | exact hs _) (by decide) rfl (fun hb545 => ?_) (fun hb545 => ?_)
  · replace hb545 := cq_eq.1.mp hb545
    refine e_step (pc' := 552) hK rfl rfl rfl ?_
    refine e_if (t := 567) (pc' := 555) hK rfl (by first | omega | assumption | exact hs _) (by decide) rfl (fun hb552 => ?_) (fun hb552 => ?_)
    · replace hb552 := cq_ne.1.mp hb552
      refine e_goto (t := 1531) hK rfl (by decide) ?_
      exact K _ w g1 _ _ _ ⟨hl.mv, hM2, p1, p2⟩ hg
    · replace hb552 := cq_ne.2.mp hb552
      have ev : (g1 276).2.2 0 = (sp_template W (sc.2 (i + 1)) (sc.2 (i + 2))).2.1 := hv (by omega)
      refine e_step (pc' := 556) hK rfl rfl rfl ?_
      refine e_step (pc' := 557) hK rfl rfl rfl ?_
      refine e_lald (pc' := 558) hK rfl (by simp only [mH_t64, p1, p2, e76, ev]) (by first | omega | assumption | exact hs _) (by (try simp only [mH_t64, p1, p2, e76, ev]); first | omega | assumption | exact hs _) rfl ?_
      try simp only [mH_t64, p1, p2, e76, ev]
      refine e_step (pc' := 560) hK rfl rfl rfl ?_
      refine e_i2l (pc' := 561) hK rfl (by first | omega | assumption | exact hs _) rfl ?_
      refine e_lcmp (pc' := 562) hK rfl (by first | omega | assumption | exact hs _) (by first | omega | assumption | exact hs _) rfl ?_
      rw [cL_s]
      refine e_if (t := 567) (pc' := 565) hK rfl (by first | omega | assumption | exact hs _) (by decide) rfl (fun hb562 => ?_) (fun hb562 => ?_)
      · replace hb562 := cq_eq.1.mp hb562
        refine e_goto (t := 1531) hK rfl (by decide) ?_
        exact K _ w g1 _ _ _ ⟨hl.mv, hM2, p1, p2⟩ hg
      · replace hb562 := cq_eq.2.mp hb562
        exfalso; first | omega | exact absurd trivial (by assumption) | (first | omega | assumption | exact hs _)
  · replace hb545 := cq_eq.2.mp hb545
    exfalso; first | omega | exact absurd trivial (by assumption) | (first | omega | assumption | exact hs _)
set_option maxRecDepth 10000 in
theorem r_piece {Q : mv_R → mv_C → mv_H → Prop} {W : wt} {v : mvt} {m o s_ : Nat} (hI : LI W v m h) (hs : ∀ j : Int, mv_i (sc.2 j)) (i : Int) (hi : 0 ≤ i) (hn : i + 4 ≤ sc.1) (a5 a6 : mv_V) (K : ∀ (W1 : wt) (v1 : mvt) (g1 : mv_H) (c1 : mv_C) (b5 b6 : mv_V), LI W1 v1 c1.1 g1 → cgr (m, o, s_) c1 → mv_Ev sc 205 1531 [(4, 0), (2, 0), (2, 264), (2, 276), (0, i), b5, b6] [] c1 (mH g1 v1) Q) : mv_Ev sc 205 570 [(4, 0), (2, 0), (2, 264), (2, 276), (0, i), a5, a6] [] (m, o, s_) (mH h v) Q := by
  obtain ⟨hL, hM, q1, q2⟩ := hI
  have o1 : (mH h v 276).1 = 13 := by { rw [m76]; exact q1 }
  have o2 : (mH h v 276).2.1 = 1 := by { rw [m76]; exact q2 }
  have a0 : (mH h v 0).1 = 0 := hL.1.1.1
  have hK : (mv_m 205).1 = kc_Law_law := rfl
  refine e_step (pc' := 571) hK rfl rfl rfl ?_
  refine e_step (pc' := 572) hK rfl rfl rfl ?_
  refine e_step (pc' := 574) hK rfl rfl rfl ?_
  refine e_step (pc' := 575) hK rfl rfl rfl ?_
  refine e_step (pc' := 576) hK rfl rfl rfl ?_
  refine e_sil (pc' := 577) hK rfl (by first | omega | assumption | exact hs _) (by first | omega | assumption | exact hs _) rfl ?_
  refine e_step (pc' := 578) hK rfl rfl rfl ?_
  refine e_step (pc' := 580) hK rfl rfl rfl ?_
  refine e_step (pc' := 581) hK rfl rfl rfl ?_
  refine e_step (pc' := 582) hK rfl rfl rfl ?_
  refine e_sil (pc' := 583) hK rfl (by first | omega | assumption | exact hs _) (by first | omega | assumption | exact hs _) rfl ?_
  refine e_step (pc' := 584) hK rfl rfl rfl ?_
  refine e_step (pc' := 586) hK rfl rfl rfl ?_
  refine e_step (pc' := 587) hK rfl rfl rfl ?_
  refine e_step (pc' := 588) hK rfl rfl rfl ?_
  refine e_sil (pc' := 589) hK rfl (by first | omega | assumption | exact hs _) (by first | omega | assumption | exact hs _) rfl ?_
  refine e_step (pc' := 590) hK rfl rfl rfl ?_
  refine e_cQS5 (z := 191) hK rfl rfl rfl (Nat.le_of_ble_eq_true rfl) (Nat.le_of_ble_eq_true rfl) (w_piece hL o1 o2 (sc.2 (i + 1)) (hs _) (sc.2 (i + 2)) (hs _) (sc.2 (i + 3)) (hs _)) ?_
  rintro _ c1 h1 ⟨rfl, hg, hl, hf, hx, p1, p2, hv⟩
  refine ⟨by show (0 : Nat) ≠ 4; decide, ?_⟩
  rw [if_neg (by show ¬ (0 : Nat) = 3; decide)]
  obtain ⟨g1, rfl⟩ : ∃ g : mv_H, h1 = mH g v := ⟨h1, mH_of hf⟩
  rw [m76] at p1 p2 hv
  have hk := kk_piece W (sc.2 (i + 1)) (sc.2 (i + 2)) (sc.2 (i + 3))
  show mv_Ev _ _ 593 _ _ _ _ _
  refine e_step (pc' := 595) hK rfl rfl rfl ?_
  try simp only [List.set_cons_zero, List.set_cons_succ]
  refine e_step (pc' := 596) hK rfl rfl rfl ?_
  refine e_step (pc' := 597) hK rfl rfl rfl ?_
  refine e_step (pc' := 599) hK rfl rfl rfl ?_
  refine e_step (pc' := 600) hK rfl rfl rfl ?_
  refine e_step (pc' := 601) hK rfl rfl rfl ?_
  refine e_sil (pc' := 602) hK rfl (by first | omega | assumption | exact hs _) (by first | omega | assumption | exact hs _) rfl ?_
  refine e_step (pc' := 603) hK rfl rfl rfl ?_
  refine e_step (pc' := 605) hK rfl rfl rfl ?_
  refine e_step (pc' := 606) hK rfl rfl rfl ?_
  refine e_step (pc' := 607) hK rfl rfl rfl ?_
  refine e_sil (pc' := 608) hK rfl (by first | omega | assumption | exact hs _) (by first | omega | assumption | exact hs _) rfl ?_
  refine e_step (pc' := 609) hK rfl rfl rfl ?_
  refine e_step (pc' := 611) hK rfl rfl rfl ?_
  refine e_step (pc' := 612) hK rfl rfl rfl ?_
  refine e_step (pc' := 613) hK rfl rfl rfl ?_
  refine e_sil (pc' := 614) hK rfl (by first | omega | assumption | exact hs _) (by first | omega | assumption | exact hs _) rfl ?_
  refine e_cQV4 (z := 140) hK rfl rfl (by first | (simp only [mH_t64, p1, p2]; rfl) | (show _ = 2; assumption) | (show _ = 1; assumption) | (show _ = 0; assumption) | (show _ = 3; assumption) | (show _ = 4; assumption) | exact rfl) rfl (Nat.le_of_ble_eq_true rfl) (Nat.le_of_ble_eq_true rfl) (g_piece hM (sc.2 (i + 1)) (hs _) (sc.2 (i + 2)) (hs _) (sc.2 (i + 3)) (hs _)) ?_
  rintro _ _ _ ⟨rfl, rfl, w, rfl, hM2, hw⟩
  refine ⟨by show (0 : Nat) ≠ 4; decide, ?_⟩
  rw [if_neg (by show ¬ (0 : Nat) = 3; decide)]
  have e76 : mH g1 w 276 = g1 276 := m76
  show mv_Ev _ _ 617 _ _ _ _ _
  refine e_step (pc' := 619) hK rfl rfl rfl ?_
  try simp only [List.set_cons_zero, List.set_cons_succ]
  refine e_step (pc' := 620) hK rfl rfl rfl ?_
  refine e_cRV1 (z := 107) (pc' := 623) hK rfl rfl (by first | (simp only [mH_t64, p1, p2, e76]; rfl) | (show _ = 2; assumption) | (show _ = 1; assumption) | (show _ = 0; assumption) | (show _ = 3; assumption) | (show _ = 4; assumption) | exact rfl) rfl (Nat.le_of_ble_eq_true rfl) (Nat.le_of_ble_eq_true rfl) (g_thrown _ hw) (by decide) rfl ?_
  try simp only [mH_t64, p1, p2, e76]
  refine e_step (pc' := 625) hK rfl rfl rfl ?_
  refine e_icmp (t := 630) (pc' := 628) hK rfl (by first | omega | assumption | exact hs _) (by first | omega | assumption | exact hs _) (by decide) rfl (fun hb625 => ?_) (fun hb625 => ?_)
  · replace hb625 := cq_eq.1.mp hb625
    refine e_step (pc' := 632) hK rfl rfl rfl ?_
    refine e_if (t := 647) (pc' := 635) hK rfl (by first | omega | assumption | exact hs _) (by decide) rfl (fun hb632 => ?_) (fun hb632 => ?_)
    · replace hb632 := cq_ne.1.mp hb632
      refine e_goto (t := 1531) hK rfl (by decide) ?_
      exact K _ w g1 _ _ _ ⟨hl.mv, hM2, p1, p2⟩ hg
    · replace hb632 := cq_ne.2.mp hb632
      have ev : (g1 276).2.2 0 = (sp_piece W (sc.2 (i + 1)) (sc.2 (i + 2)) (sc.2 (i + 3))).2.1 := hv (by omega)
      refine e_step (pc' := 636) hK rfl rfl rfl ?_
      refine e_step (pc' := 637) hK rfl rfl rfl ?_
      refine e_lald (pc' := 638) hK rfl (by simp only [mH_t64, p1, p2, e76, ev]) (by first | omega | assumption | exact hs _) (by (try simp only [mH_t64, p1, p2, e76, ev]); first | omega | assumption | exact hs _) rfl ?_
      try simp only [mH_t64, p1, p2, e76, ev]
      refine e_step (pc' := 640) hK rfl rfl rfl ?_
      refine e_i2l (pc' := 641) hK rfl (by first | omega | assumption | exact hs _) rfl ?_
      refine e_lcmp (pc' := 642) hK rfl (by first | omega | assumption | exact hs _) (by first | omega | assumption | exact hs _) rfl ?_
      rw [cL_s]
      refine e_if (t := 647) (pc' := 645) hK rfl (by first | omega | assumption | exact hs _) (by decide) rfl (fun hb642 => ?_) (fun hb642 => ?_)
      · replace hb642 := cq_eq.1.mp hb642
        refine e_goto (t := 1531) hK rfl (by decide) ?_
        exact K _ w g1 _ _ _ ⟨hl.mv, hM2, p1, p2⟩ hg
      · replace hb642 := cq_eq.2.mp hb642
        exfalso; first | omega | exact absurd trivial (by assumption) | (first | omega | assumption | exact hs _)
  · replace hb625 := cq_eq.2.mp hb625
    exfalso; first | omega | exact absurd trivial (by assumption) | (first | omega | assumption | exact hs _)
set_option maxRecDepth 10000 in
theorem r_rises {Q : mv_R → mv_C → mv_H → Prop} {W : wt} {v : mvt} {m o s_ : Nat} (hI : LI W v m h) (hs : ∀ j : Int, mv_i (sc.2 j)) (i : Int) (hi : 0 ≤ i) (hn : i + 4 ≤ sc.1) (a5 a6 : mv_V) (K : ∀ (W1 : wt) (v1 : mvt) (g1 : mv_H) (c1 : mv_C) (b5 b6 : mv_V), LI W1 v1 c1.1 g1 → cgr (m, o, s_) c1 → mv_Ev sc 205 1531 [(4, 0), (2, 0), (2, 264), (2, 276), (0, i), b5, b6] [] c1 (mH g1 v1) Q) : mv_Ev sc 205 650 [(4, 0), (2, 0), (2, 264), (2, 276), (0, i), a5, a6] [] (m, o, s_) (mH h v) Q := by
  obtain ⟨hL, hM, q1, q2⟩ := hI
  have o1 : (mH h v 276).1 = 13 := by { rw [m76]; exact q1 }
  have o2 : (mH h v 276).2.1 = 1 := by { rw [m76]; exact q2 }
  have a0 : (mH h v 0).1 = 0 := hL.1.1.1
  have hK : (mv_m 205).1 = kc_Law_law := rfl
  refine e_step (pc' := 651) hK rfl rfl rfl ?_
  refine e_step (pc' := 652) hK rfl rfl rfl ?_
  refine e_step (pc' := 654) hK rfl rfl rfl ?_
  refine e_step (pc' := 655) hK rfl rfl rfl ?_
  refine e_step (pc' := 656) hK rfl rfl rfl ?_
  refine e_sil (pc' := 657) hK rfl (by first | omega | assumption | exact hs _) (by first | omega | assumption | exact hs _) rfl ?_
  refine e_step (pc' := 658) hK rfl rfl rfl ?_
  refine e_step (pc' := 660) hK rfl rfl rfl ?_
  refine e_step (pc' := 661) hK rfl rfl rfl ?_
  refine e_step (pc' := 662) hK rfl rfl rfl ?_
  refine e_sil (pc' := 663) hK rfl (by first | omega | assumption | exact hs _) (by first | omega | assumption | exact hs _) rfl ?_
  refine e_step (pc' := 664) hK rfl rfl rfl ?_
  refine e_cQS4 (z := 192) hK rfl rfl rfl (Nat.le_of_ble_eq_true rfl) (Nat.le_of_ble_eq_true rfl) (w_rises hL o1 o2 (sc.2 (i + 1)) (hs _) (sc.2 (i + 2)) (hs _)) ?_
  rintro _ c1 h1 ⟨rfl, hg, hl, hf, hx, p1, p2, hv⟩
  refine ⟨by show (0 : Nat) ≠ 4; decide, ?_⟩
  rw [if_neg (by show ¬ (0 : Nat) = 3; decide)]
  obtain ⟨g1, rfl⟩ : ∃ g : mv_H, h1 = mH g v := ⟨h1, mH_of hf⟩
  rw [m76] at p1 p2 hv
  have hk := kk_rises W (sc.2 (i + 1)) (sc.2 (i + 2))
  show mv_Ev _ _ 667 _ _ _ _ _
  refine e_step (pc' := 669) hK rfl rfl rfl ?_
  try simp only [List.set_cons_zero, List.set_cons_succ]
  refine e_step (pc' := 670) hK rfl rfl rfl ?_
  refine e_step (pc' := 671) hK rfl rfl rfl ?_
  refine e_step (pc' := 673) hK rfl rfl rfl ?_
  refine e_step (pc' := 674) hK rfl rfl rfl ?_
  refine e_step (pc' := 675) hK rfl rfl rfl ?_
  refine e_sil (pc' := 676) hK rfl (by first | omega | assumption | exact hs _) (by first | omega | assumption | exact hs _) rfl ?_
  refine e_step (pc' := 677) hK rfl rfl rfl ?_
  refine e_step (pc' := 679) hK rfl rfl rfl ?_
  refine e_step (pc' := 680) hK rfl rfl rfl ?_
  refine e_step (pc' := 681) hK rfl rfl rfl ?_
  refine e_sil (pc' := 682) hK rfl (by first | omega | assumption | exact hs _) (by first | omega | assumption | exact hs _) rfl ?_
  refine e_cQV3 (z := 143) hK rfl rfl (by first | (simp only [mH_t64, p1, p2]; rfl) | (show _ = 2; assumption) | (show _ = 1; assumption) | (show _ = 0; assumption) | (show _ = 3; assumption) | (show _ = 4; assumption) | exact rfl) rfl (Nat.le_of_ble_eq_true rfl) (Nat.le_of_ble_eq_true rfl) (g_rises hM (sc.2 (i + 1)) (hs _) (sc.2 (i + 2)) (hs _)) ?_
  rintro _ _ _ ⟨rfl, rfl, w, rfl, hM2, hw⟩
  refine ⟨by show (0 : Nat) ≠ 4; decide, ?_⟩
  rw [if_neg (by show ¬ (0 : Nat) = 3; decide)]
  have e76 : mH g1 w 276 = g1 276 := m76
  show mv_Ev _ _ 685 _ _ _ _ _
  refine e_step (pc' := 687) hK rfl rfl rfl ?_
  try simp only [List.set_cons_zero, List.set_cons_succ]
  refine e_step (pc' := 688) hK rfl rfl rfl ?_
  refine e_cRV1 (z := 107) (pc' := 691) hK rfl rfl (by first | (simp only [mH_t64, p1, p2, e76]; rfl) | (show _ = 2; assumption) | (show _ = 1; assumption) | (show _ = 0; assumption) | (show _ = 3; assumption) | (show _ = 4; assumption) | exact rfl) rfl (Nat.le_of_ble_eq_true rfl) (Nat.le_of_ble_eq_true rfl) (g_thrown _ hw) (by decide) rfl ?_
  try simp only [mH_t64, p1, p2, e76]
  refine e_step (pc' := 693) hK rfl rfl rfl ?_
  refine e_icmp (t := 698) (pc' := 696) hK rfl (by first | omega | assumption | exact hs _) (by first | omega | assumption | exact hs _) (by decide) rfl (fun hb693 => ?_) (fun hb693 => ?_)
  · replace hb693 := cq_eq.1.mp hb693
    refine e_step (pc' := 700) hK rfl rfl rfl ?_
    refine e_if (t := 715) (pc' := 703) hK rfl (by first | omega | assumption | exact hs _) (by decide) rfl (fun hb700 => ?_) (fun hb700 => ?_)
    · replace hb700 := cq_ne.1.mp hb700
      refine e_goto (t := 1531) hK rfl (by decide) ?_
      exact K _ w g1 _ _ _ ⟨hl.mv, hM2, p1, p2⟩ hg
    · replace hb700 := cq_ne.2.mp hb700
      have ev : (g1 276).2.2 0 = (sp_rises W (sc.2 (i + 1)) (sc.2 (i + 2))).2.1 := hv (by omega)
      refine e_step (pc' := 704) hK rfl rfl rfl ?_
      refine e_step (pc' := 705) hK rfl rfl rfl ?_
      refine e_lald (pc' := 706) hK rfl (by simp only [mH_t64, p1, p2, e76, ev]) (by first | omega | assumption | exact hs _) (by (try simp only [mH_t64, p1, p2, e76, ev]); first | omega | assumption | exact hs _) rfl ?_
      try simp only [mH_t64, p1, p2, e76, ev]
      refine e_step (pc' := 708) hK rfl rfl rfl ?_
      refine e_i2l (pc' := 709) hK rfl (by first | omega | assumption | exact hs _) rfl ?_
      refine e_lcmp (pc' := 710) hK rfl (by first | omega | assumption | exact hs _) (by first | omega | assumption | exact hs _) rfl ?_
      rw [cL_s]
      refine e_if (t := 715) (pc' := 713) hK rfl (by first | omega | assumption | exact hs _) (by decide) rfl (fun hb710 => ?_) (fun hb710 => ?_)
      · replace hb710 := cq_eq.1.mp hb710
        refine e_goto (t := 1531) hK rfl (by decide) ?_
        exact K _ w g1 _ _ _ ⟨hl.mv, hM2, p1, p2⟩ hg
      · replace hb710 := cq_eq.2.mp hb710
        exfalso; first | omega | exact absurd trivial (by assumption) | (first | omega | assumption | exact hs _)
  · replace hb693 := cq_eq.2.mp hb693
    exfalso; first | omega | exact absurd trivial (by assumption) | (first | omega | assumption | exact hs _)
set_option maxRecDepth 10000 in
theorem r_take {Q : mv_R → mv_C → mv_H → Prop} {W : wt} {v : mvt} {m o s_ : Nat} (hI : LI W v m h) (hs : ∀ j : Int, mv_i (sc.2 j)) (i : Int) (hi : 0 ≤ i) (hn : i + 4 ≤ sc.1) (a5 a6 : mv_V) (K : ∀ (W1 : wt) (v1 : mvt) (g1 : mv_H) (c1 : mv_C) (b5 b6 : mv_V), LI W1 v1 c1.1 g1 → cgr (m, o, s_) c1 → mv_Ev sc 205 1531 [(4, 0), (2, 0), (2, 264), (2, 276), (0, i), b5, b6] [] c1 (mH g1 v1) Q) : mv_Ev sc 205 718 [(4, 0), (2, 0), (2, 264), (2, 276), (0, i), a5, a6] [] (m, o, s_) (mH h v) Q := by
  obtain ⟨hL, hM, q1, q2⟩ := hI
  have o1 : (mH h v 276).1 = 13 := by { rw [m76]; exact q1 }
  have o2 : (mH h v 276).2.1 = 1 := by { rw [m76]; exact q2 }
  have a0 : (mH h v 0).1 = 0 := hL.1.1.1
  have hK : (mv_m 205).1 = kc_Law_law := rfl
  refine e_step (pc' := 719) hK rfl rfl rfl ?_
  refine e_step (pc' := 720) hK rfl rfl rfl ?_
  refine e_cQS2 (z := 193) hK rfl rfl rfl (Nat.le_of_ble_eq_true rfl) (Nat.le_of_ble_eq_true rfl) (w_take hL o1 o2) ?_
  rintro _ c1 h1 ⟨rfl, hg, hl, hf, hx, p1, p2, hv⟩
  refine ⟨by show (0 : Nat) ≠ 4; decide, ?_⟩
  rw [if_neg (by show ¬ (0 : Nat) = 3; decide)]
  obtain ⟨g1, rfl⟩ : ∃ g : mv_H, h1 = mH g v := ⟨h1, mH_of hf⟩
  rw [m76] at p1 p2 hv
  have hk := kk_take W m
  show mv_Ev _ _ 723 _ _ _ _ _
  refine e_step (pc' := 725) hK rfl rfl rfl ?_
  try simp only [List.set_cons_zero, List.set_cons_succ]
  refine e_step (pc' := 726) hK rfl rfl rfl ?_
  refine e_cQV1 (z := 145) hK rfl rfl (by first | (simp only [mH_t64, p1, p2]; rfl) | (show _ = 2; assumption) | (show _ = 1; assumption) | (show _ = 0; assumption) | (show _ = 3; assumption) | (show _ = 4; assumption) | exact rfl) rfl (Nat.le_of_ble_eq_true rfl) (Nat.le_of_ble_eq_true rfl) (g_take hM (m : Int)) ?_
  rintro _ _ _ ⟨rfl, rfl, w, rfl, hM2, hw⟩
  refine ⟨by show (0 : Nat) ≠ 4; decide, ?_⟩
  rw [if_neg (by show ¬ (0 : Nat) = 3; decide)]
  have e76 : mH g1 w 276 = g1 276 := m76
  show mv_Ev _ _ 729 _ _ _ _ _
  refine e_step (pc' := 731) hK rfl rfl rfl ?_
  try simp only [List.set_cons_zero, List.set_cons_succ]
  refine e_step (pc' := 732) hK rfl rfl rfl ?_
  refine e_cRV1 (z := 107) (pc' := 735) hK rfl rfl (by first | (simp only [mH_t64, p1, p2, e76]; rfl) | (show _ = 2; assumption) | (show _ = 1; assumption) | (show _ = 0; assumption) | (show _ = 3; assumption) | (show _ = 4; assumption) | exact rfl) rfl (Nat.le_of_ble_eq_true rfl) (Nat.le_of_ble_eq_true rfl) (g_thrown _ hw) (by decide) rfl ?_
  try simp only [mH_t64, p1, p2, e76]
  refine e_step (pc' := 737) hK rfl rfl rfl ?_
  refine e_icmp (t := 742) (pc' := 740) hK rfl (by first | omega | assumption | exact hs _) (by first | omega | assumption | exact hs _) (by decide) rfl (fun hb737 => ?_) (fun hb737 => ?_)
  · replace hb737 := cq_eq.1.mp hb737
    refine e_step (pc' := 744) hK rfl rfl rfl ?_
    refine e_if (t := 759) (pc' := 747) hK rfl (by first | omega | assumption | exact hs _) (by decide) rfl (fun hb744 => ?_) (fun hb744 => ?_)
    · replace hb744 := cq_ne.1.mp hb744
      refine e_goto (t := 1531) hK rfl (by decide) ?_
      exact K _ w g1 _ _ _ ⟨hl.mv, hM2, p1, p2⟩ hg
    · replace hb744 := cq_ne.2.mp hb744
      have ev : (g1 276).2.2 0 = (sp_take W m).2.1 := hv (by omega)
      refine e_step (pc' := 748) hK rfl rfl rfl ?_
      refine e_step (pc' := 749) hK rfl rfl rfl ?_
      refine e_lald (pc' := 750) hK rfl (by simp only [mH_t64, p1, p2, e76, ev]) (by first | omega | assumption | exact hs _) (by (try simp only [mH_t64, p1, p2, e76, ev]); first | omega | assumption | exact hs _) rfl ?_
      try simp only [mH_t64, p1, p2, e76, ev]
      refine e_step (pc' := 752) hK rfl rfl rfl ?_
      refine e_i2l (pc' := 753) hK rfl (by first | omega | assumption | exact hs _) rfl ?_
      refine e_lcmp (pc' := 754) hK rfl (by first | omega | assumption | exact hs _) (by first | omega | assumption | exact hs _) rfl ?_
      rw [cL_s]
      refine e_if (t := 759) (pc' := 757) hK rfl (by first | omega | assumption | exact hs _) (by decide) rfl (fun hb754 => ?_) (fun hb754 => ?_)
      · replace hb754 := cq_eq.1.mp hb754
        refine e_goto (t := 1531) hK rfl (by decide) ?_
        exact K _ w g1 _ _ _ ⟨hl.mv, hM2, p1, p2⟩ hg
      · replace hb754 := cq_eq.2.mp hb754
        exfalso; first | omega | exact absurd trivial (by assumption) | (first | omega | assumption | exact hs _)
  · replace hb737 := cq_eq.2.mp hb737
    exfalso; first | omega | exact absurd trivial (by assumption) | (first | omega | assumption | exact hs _)
set_option maxRecDepth 10000 in
theorem r_again {Q : mv_R → mv_C → mv_H → Prop} {W : wt} {v : mvt} {m o s_ : Nat} (hI : LI W v m h) (hs : ∀ j : Int, mv_i (sc.2 j)) (i : Int) (hi : 0 ≤ i) (hn : i + 4 ≤ sc.1) (a5 a6 : mv_V) (K : ∀ (W1 : wt) (v1 : mvt) (g1 : mv_H) (c1 : mv_C) (b5 b6 : mv_V), LI W1 v1 c1.1 g1 → cgr (m, o, s_) c1 → mv_Ev sc 205 1531 [(4, 0), (2, 0), (2, 264), (2, 276), (0, i), b5, b6] [] c1 (mH g1 v1) Q) : mv_Ev sc 205 762 [(4, 0), (2, 0), (2, 264), (2, 276), (0, i), a5, a6] [] (m, o, s_) (mH h v) Q := by
  obtain ⟨hL, hM, q1, q2⟩ := hI
  have o1 : (mH h v 276).1 = 13 := by { rw [m76]; exact q1 }
  have o2 : (mH h v 276).2.1 = 1 := by { rw [m76]; exact q2 }
  have a0 : (mH h v 0).1 = 0 := hL.1.1.1
  have hK : (mv_m 205).1 = kc_Law_law := rfl
  refine e_step (pc' := 763) hK rfl rfl rfl ?_
  refine e_step (pc' := 764) hK rfl rfl rfl ?_
  refine e_step (pc' := 766) hK rfl rfl rfl ?_
  refine e_step (pc' := 767) hK rfl rfl rfl ?_
  refine e_step (pc' := 768) hK rfl rfl rfl ?_
  refine e_sil (pc' := 769) hK rfl (by first | omega | assumption | exact hs _) (by first | omega | assumption | exact hs _) rfl ?_
  refine e_step (pc' := 770) hK rfl rfl rfl ?_
  refine e_cQS3 (z := 194) hK rfl rfl rfl (Nat.le_of_ble_eq_true rfl) (Nat.le_of_ble_eq_true rfl) (w_again hL o1 o2 (sc.2 (i + 1)) (hs _)) ?_
  rintro _ c1 h1 ⟨rfl, hg, hl, hf, hx, p1, p2, hv⟩
  refine ⟨by show (0 : Nat) ≠ 4; decide, ?_⟩
  rw [if_neg (by show ¬ (0 : Nat) = 3; decide)]
  obtain ⟨g1, rfl⟩ : ∃ g : mv_H, h1 = mH g v := ⟨h1, mH_of hf⟩
  rw [m76] at p1 p2 hv
  have hk := kk_again W (sc.2 (i + 1))
  show mv_Ev _ _ 773 _ _ _ _ _
  refine e_step (pc' := 775) hK rfl rfl rfl ?_
  try simp only [List.set_cons_zero, List.set_cons_succ]
  refine e_step (pc' := 776) hK rfl rfl rfl ?_
  refine e_step (pc' := 777) hK rfl rfl rfl ?_
  refine e_step (pc' := 779) hK rfl rfl rfl ?_
  refine e_step (pc' := 780) hK rfl rfl rfl ?_
  refine e_step (pc' := 781) hK rfl rfl rfl ?_
  refine e_sil (pc' := 782) hK rfl (by first | omega | assumption | exact hs _) (by first | omega | assumption | exact hs _) rfl ?_
  refine e_cQV2 (z := 154) hK rfl rfl (by first | (simp only [mH_t64, p1, p2]; rfl) | (show _ = 2; assumption) | (show _ = 1; assumption) | (show _ = 0; assumption) | (show _ = 3; assumption) | (show _ = 4; assumption) | exact rfl) rfl (Nat.le_of_ble_eq_true rfl) (Nat.le_of_ble_eq_true rfl) (g_again hM (sc.2 (i + 1)) (hs _)) ?_
  rintro _ _ _ ⟨rfl, rfl, w, rfl, hM2, hw⟩
  refine ⟨by show (0 : Nat) ≠ 4; decide, ?_⟩
  rw [if_neg (by show ¬ (0 : Nat) = 3; decide)]
  have e76 : mH g1 w 276 = g1 276 := m76
  show mv_Ev _ _ 785 _ _ _ _ _
  refine e_step (pc' := 787) hK rfl rfl rfl ?_
  try simp only [List.set_cons_zero, List.set_cons_succ]
  refine e_step (pc' := 788) hK rfl rfl rfl ?_
  refine e_cRV1 (z := 107) (pc' := 791) hK rfl rfl (by first | (simp only [mH_t64, p1, p2, e76]; rfl) | (show _ = 2; assumption) | (show _ = 1; assumption) | (show _ = 0; assumption) | (show _ = 3; assumption) | (show _ = 4; assumption) | exact rfl) rfl (Nat.le_of_ble_eq_true rfl) (Nat.le_of_ble_eq_true rfl) (g_thrown _ hw) (by decide) rfl ?_
  try simp only [mH_t64, p1, p2, e76]
  refine e_step (pc' := 793) hK rfl rfl rfl ?_
  refine e_icmp (t := 798) (pc' := 796) hK rfl (by first | omega | assumption | exact hs _) (by first | omega | assumption | exact hs _) (by decide) rfl (fun hb793 => ?_) (fun hb793 => ?_)
  · replace hb793 := cq_eq.1.mp hb793
    refine e_step (pc' := 800) hK rfl rfl rfl ?_
    refine e_if (t := 815) (pc' := 803) hK rfl (by first | omega | assumption | exact hs _) (by decide) rfl (fun hb800 => ?_) (fun hb800 => ?_)
    · replace hb800 := cq_ne.1.mp hb800
      refine e_goto (t := 1531) hK rfl (by decide) ?_
      exact K _ w g1 _ _ _ ⟨hl.mv, hM2, p1, p2⟩ hg
    · replace hb800 := cq_ne.2.mp hb800
      have ev : (g1 276).2.2 0 = (sp_again W (sc.2 (i + 1))).2.1 := hv (by omega)
      refine e_step (pc' := 804) hK rfl rfl rfl ?_
      refine e_step (pc' := 805) hK rfl rfl rfl ?_
      refine e_lald (pc' := 806) hK rfl (by simp only [mH_t64, p1, p2, e76, ev]) (by first | omega | assumption | exact hs _) (by (try simp only [mH_t64, p1, p2, e76, ev]); first | omega | assumption | exact hs _) rfl ?_
      try simp only [mH_t64, p1, p2, e76, ev]
      refine e_step (pc' := 808) hK rfl rfl rfl ?_
      refine e_i2l (pc' := 809) hK rfl (by first | omega | assumption | exact hs _) rfl ?_
      refine e_lcmp (pc' := 810) hK rfl (by first | omega | assumption | exact hs _) (by first | omega | assumption | exact hs _) rfl ?_
      rw [cL_s]
      refine e_if (t := 815) (pc' := 813) hK rfl (by first | omega | assumption | exact hs _) (by decide) rfl (fun hb810 => ?_) (fun hb810 => ?_)
      · replace hb810 := cq_eq.1.mp hb810
        refine e_goto (t := 1531) hK rfl (by decide) ?_
        exact K _ w g1 _ _ _ ⟨hl.mv, hM2, p1, p2⟩ hg
      · replace hb810 := cq_eq.2.mp hb810
        exfalso; first | omega | exact absurd trivial (by assumption) | (first | omega | assumption | exact hs _)
  · replace hb793 := cq_eq.2.mp hb793
    exfalso; first | omega | exact absurd trivial (by assumption) | (first | omega | assumption | exact hs _)
set_option maxRecDepth 10000 in
theorem r_remove {Q : mv_R → mv_C → mv_H → Prop} {W : wt} {v : mvt} {m o s_ : Nat} (hI : LI W v m h) (hs : ∀ j : Int, mv_i (sc.2 j)) (i : Int) (hi : 0 ≤ i) (hn : i + 4 ≤ sc.1) (a5 a6 : mv_V) (K : ∀ (W1 : wt) (v1 : mvt) (g1 : mv_H) (c1 : mv_C) (b5 b6 : mv_V), LI W1 v1 c1.1 g1 → cgr (m, o, s_) c1 → mv_Ev sc 205 1531 [(4, 0), (2, 0), (2, 264), (2, 276), (0, i), b5, b6] [] c1 (mH g1 v1) Q) : mv_Ev sc 205 818 [(4, 0), (2, 0), (2, 264), (2, 276), (0, i), a5, a6] [] (m, o, s_) (mH h v) Q := by
  obtain ⟨hL, hM, q1, q2⟩ := hI
  have o1 : (mH h v 276).1 = 13 := by { rw [m76]; exact q1 }
  have o2 : (mH h v 276).2.1 = 1 := by { rw [m76]; exact q2 }
  have a0 : (mH h v 0).1 = 0 := hL.1.1.1
  have hK : (mv_m 205).1 = kc_Law_law := rfl
  refine e_step (pc' := 819) hK rfl rfl rfl ?_
  refine e_step (pc' := 820) hK rfl rfl rfl ?_
  refine e_step (pc' := 822) hK rfl rfl rfl ?_
  refine e_step (pc' := 823) hK rfl rfl rfl ?_
  refine e_step (pc' := 824) hK rfl rfl rfl ?_
  refine e_sil (pc' := 825) hK rfl (by first | omega | assumption | exact hs _) (by first | omega | assumption | exact hs _) rfl ?_
  refine e_step (pc' := 826) hK rfl rfl rfl ?_
  refine e_cQS3 (z := 195) hK rfl rfl rfl (Nat.le_of_ble_eq_true rfl) (Nat.le_of_ble_eq_true rfl) (w_remove hL o1 o2 (sc.2 (i + 1)) (hs _)) ?_
  rintro _ c1 h1 ⟨rfl, hg, hl, hf, hx, p1, p2, hv⟩
  refine ⟨by show (0 : Nat) ≠ 4; decide, ?_⟩
  rw [if_neg (by show ¬ (0 : Nat) = 3; decide)]
  obtain ⟨g1, rfl⟩ : ∃ g : mv_H, h1 = mH g v := ⟨h1, mH_of hf⟩
  rw [m76] at p1 p2 hv
  have hk := kk_remove W (sc.2 (i + 1))
  show mv_Ev _ _ 829 _ _ _ _ _
  refine e_step (pc' := 831) hK rfl rfl rfl ?_
  try simp only [List.set_cons_zero, List.set_cons_succ]
  refine e_step (pc' := 832) hK rfl rfl rfl ?_
  refine e_step (pc' := 833) hK rfl rfl rfl ?_
  refine e_step (pc' := 835) hK rfl rfl rfl ?_
  refine e_step (pc' := 836) hK rfl rfl rfl ?_
  refine e_step (pc' := 837) hK rfl rfl rfl ?_
  refine e_sil (pc' := 838) hK rfl (by first | omega | assumption | exact hs _) (by first | omega | assumption | exact hs _) rfl ?_
  refine e_cQV2 (z := 157) hK rfl rfl (by first | (simp only [mH_t64, p1, p2]; rfl) | (show _ = 2; assumption) | (show _ = 1; assumption) | (show _ = 0; assumption) | (show _ = 3; assumption) | (show _ = 4; assumption) | exact rfl) rfl (Nat.le_of_ble_eq_true rfl) (Nat.le_of_ble_eq_true rfl) (g_remove hM (sc.2 (i + 1)) (hs _)) ?_
  rintro _ _ _ ⟨rfl, rfl, w, rfl, hM2, hw⟩
  refine ⟨by show (0 : Nat) ≠ 4; decide, ?_⟩
  rw [if_neg (by show ¬ (0 : Nat) = 3; decide)]
  have e76 : mH g1 w 276 = g1 276 := m76
  show mv_Ev _ _ 841 _ _ _ _ _
  refine e_step (pc' := 843) hK rfl rfl rfl ?_
  try simp only [List.set_cons_zero, List.set_cons_succ]
  refine e_step (pc' := 844) hK rfl rfl rfl ?_
  refine e_cRV1 (z := 107) (pc' := 847) hK rfl rfl (by first | (simp only [mH_t64, p1, p2, e76]; rfl) | (show _ = 2; assumption) | (show _ = 1; assumption) | (show _ = 0; assumption) | (show _ = 3; assumption) | (show _ = 4; assumption) | exact rfl) rfl (Nat.le_of_ble_eq_true rfl) (Nat.le_of_ble_eq_true rfl) (g_thrown _ hw) (by decide) rfl ?_
  try simp only [mH_t64, p1, p2, e76]
  refine e_step (pc' := 849) hK rfl rfl rfl ?_
  refine e_icmp (t := 854) (pc' := 852) hK rfl (by first | omega | assumption | exact hs _) (by first | omega | assumption | exact hs _) (by decide) rfl (fun hb849 => ?_) (fun hb849 => ?_)
  · replace hb849 := cq_eq.1.mp hb849
    refine e_step (pc' := 856) hK rfl rfl rfl ?_
    refine e_if (t := 871) (pc' := 859) hK rfl (by first | omega | assumption | exact hs _) (by decide) rfl (fun hb856 => ?_) (fun hb856 => ?_)
    · replace hb856 := cq_ne.1.mp hb856
      refine e_goto (t := 1531) hK rfl (by decide) ?_
      exact K _ w g1 _ _ _ ⟨hl.mv, hM2, p1, p2⟩ hg
    · replace hb856 := cq_ne.2.mp hb856
      have ev : (g1 276).2.2 0 = (sp_remove W (sc.2 (i + 1))).2.1 := hv (by omega)
      refine e_step (pc' := 860) hK rfl rfl rfl ?_
      refine e_step (pc' := 861) hK rfl rfl rfl ?_
      refine e_lald (pc' := 862) hK rfl (by simp only [mH_t64, p1, p2, e76, ev]) (by first | omega | assumption | exact hs _) (by (try simp only [mH_t64, p1, p2, e76, ev]); first | omega | assumption | exact hs _) rfl ?_
      try simp only [mH_t64, p1, p2, e76, ev]
      refine e_step (pc' := 864) hK rfl rfl rfl ?_
      refine e_i2l (pc' := 865) hK rfl (by first | omega | assumption | exact hs _) rfl ?_
      refine e_lcmp (pc' := 866) hK rfl (by first | omega | assumption | exact hs _) (by first | omega | assumption | exact hs _) rfl ?_
      rw [cL_s]
      refine e_if (t := 871) (pc' := 869) hK rfl (by first | omega | assumption | exact hs _) (by decide) rfl (fun hb866 => ?_) (fun hb866 => ?_)
      · replace hb866 := cq_eq.1.mp hb866
        refine e_goto (t := 1531) hK rfl (by decide) ?_
        exact K _ w g1 _ _ _ ⟨hl.mv, hM2, p1, p2⟩ hg
      · replace hb866 := cq_eq.2.mp hb866
        exfalso; first | omega | exact absurd trivial (by assumption) | (first | omega | assumption | exact hs _)
  · replace hb849 := cq_eq.2.mp hb849
    exfalso; first | omega | exact absurd trivial (by assumption) | (first | omega | assumption | exact hs _)
set_option maxRecDepth 10000 in
theorem r_learn {Q : mv_R → mv_C → mv_H → Prop} {W : wt} {v : mvt} {m o s_ : Nat} (hI : LI W v m h) (hs : ∀ j : Int, mv_i (sc.2 j)) (i : Int) (hi : 0 ≤ i) (hn : i + 4 ≤ sc.1) (a5 a6 : mv_V) (K : ∀ (W1 : wt) (v1 : mvt) (g1 : mv_H) (c1 : mv_C) (b5 b6 : mv_V), LI W1 v1 c1.1 g1 → cgr (m, o, s_) c1 → mv_Ev sc 205 1531 [(4, 0), (2, 0), (2, 264), (2, 276), (0, i), b5, b6] [] c1 (mH g1 v1) Q) : mv_Ev sc 205 874 [(4, 0), (2, 0), (2, 264), (2, 276), (0, i), a5, a6] [] (m, o, s_) (mH h v) Q := by
  obtain ⟨hL, hM, q1, q2⟩ := hI
  have o1 : (mH h v 276).1 = 13 := by { rw [m76]; exact q1 }
  have o2 : (mH h v 276).2.1 = 1 := by { rw [m76]; exact q2 }
  have a0 : (mH h v 0).1 = 0 := hL.1.1.1
  have hK : (mv_m 205).1 = kc_Law_law := rfl
  refine e_step (pc' := 875) hK rfl rfl rfl ?_
  refine e_cQV1 (z := 44) hK rfl rfl (by first | (simp only [mH_t64]; rfl) | (show _ = 2; assumption) | (show _ = 1; assumption) | (show _ = 0; assumption) | (show _ = 3; assumption) | (show _ = 4; assumption) | exact rfl) rfl (Nat.le_of_ble_eq_true rfl) (Nat.le_of_ble_eq_true rfl) (lf_learn hL) ?_
  rintro _ c1 h1 ⟨rfl, hg, hl, hf, hx⟩
  rw [show clr 9 9 (sp_learn W).1 (sp_learn W).2.1 = (0, (sp_learn W).2.1) from rfl]
  refine ⟨by show (0 : Nat) ≠ 4; decide, ?_⟩
  rw [if_neg (by show ¬ (0 : Nat) = 3; decide)]
  obtain ⟨g1, rfl⟩ : ∃ g : mv_H, h1 = mH g v := ⟨h1, mH_of (fun b b0 b1 => hf b b0 (by omega))⟩
  have p1 : (g1 276).1 = 13 := by { rw [← m76 (h := g1) (v := v), hf 276 (by omega) (by omega)]; exact o1 }
  have p2 : (g1 276).2.1 = 1 := by { rw [← m76 (h := g1) (v := v), hf 276 (by omega) (by omega)]; exact o2 }
  show mv_Ev _ _ 878 _ _ _ _ _
  refine e_step (pc' := 879) hK rfl rfl rfl ?_
  refine e_cQV1 (z := 160) hK rfl rfl (by first | (simp only [mH_t64]; rfl) | (show _ = 2; assumption) | (show _ = 1; assumption) | (show _ = 0; assumption) | (show _ = 3; assumption) | (show _ = 4; assumption) | exact rfl) rfl (Nat.le_of_ble_eq_true rfl) (Nat.le_of_ble_eq_true rfl) (g_learn hM) ?_
  rintro _ _ _ ⟨rfl, rfl, w, rfl, hM2⟩
  refine ⟨by show (0 : Nat) ≠ 4; decide, ?_⟩
  rw [if_neg (by show ¬ (0 : Nat) = 3; decide)]
  show mv_Ev _ _ 882 _ _ _ _ _
  refine e_icmp (t := 1531) (pc' := 885) hK rfl (by first | omega | assumption | exact hs _) (by first | omega | assumption | exact hs _) (by decide) rfl (fun hb882 => ?_) (fun hb882 => ?_)
  · replace hb882 := cq_eq.1.mp hb882
    exact K _ w g1 _ _ _ ⟨hl.mv, hM2, p1, p2⟩ hg
  · replace hb882 := cq_eq.2.mp hb882
    exfalso; first | omega | exact absurd trivial (by assumption) | (first | omega | assumption | exact hs _)
set_option maxRecDepth 10000 in
theorem r_learnAll {Q : mv_R → mv_C → mv_H → Prop} {W : wt} {v : mvt} {m o s_ : Nat} (hI : LI W v m h) (hs : ∀ j : Int, mv_i (sc.2 j)) (i : Int) (hi : 0 ≤ i) (hn : i + 4 ≤ sc.1) (a5 a6 : mv_V) (K : ∀ (W1 : wt) (v1 : mvt) (g1 : mv_H) (c1 : mv_C) (b5 b6 : mv_V), LI W1 v1 c1.1 g1 → cgr (m, o, s_) c1 → mv_Ev sc 205 1531 [(4, 0), (2, 0), (2, 264), (2, 276), (0, i), b5, b6] [] c1 (mH g1 v1) Q) : mv_Ev sc 205 887 [(4, 0), (2, 0), (2, 264), (2, 276), (0, i), a5, a6] [] (m, o, s_) (mH h v) Q := by
  obtain ⟨hL, hM, q1, q2⟩ := hI
  have o1 : (mH h v 276).1 = 13 := by { rw [m76]; exact q1 }
  have o2 : (mH h v 276).2.1 = 1 := by { rw [m76]; exact q2 }
  have a0 : (mH h v 0).1 = 0 := hL.1.1.1
  have hK : (mv_m 205).1 = kc_Law_law := rfl
  refine e_step (pc' := 888) hK rfl rfl rfl ?_
  refine e_cQV1 (z := 46) hK rfl rfl (by first | (simp only [mH_t64]; rfl) | (show _ = 2; assumption) | (show _ = 1; assumption) | (show _ = 0; assumption) | (show _ = 3; assumption) | (show _ = 4; assumption) | exact rfl) rfl (Nat.le_of_ble_eq_true rfl) (Nat.le_of_ble_eq_true rfl) (lf_learnAll hL) ?_
  rintro _ c1 h1 ⟨rfl, hg, hl, hf, hx⟩
  rw [show clr 9 9 (sp_learnAll W).1 (sp_learnAll W).2.1 = (0, (sp_learnAll W).2.1) from rfl]
  refine ⟨by show (0 : Nat) ≠ 4; decide, ?_⟩
  rw [if_neg (by show ¬ (0 : Nat) = 3; decide)]
  obtain ⟨g1, rfl⟩ : ∃ g : mv_H, h1 = mH g v := ⟨h1, mH_of (fun b b0 b1 => hf b b0 (by omega))⟩
  have p1 : (g1 276).1 = 13 := by { rw [← m76 (h := g1) (v := v), hf 276 (by omega) (by omega)]; exact o1 }
  have p2 : (g1 276).2.1 = 1 := by { rw [← m76 (h := g1) (v := v), hf 276 (by omega) (by omega)]; exact o2 }
  show mv_Ev _ _ 891 _ _ _ _ _
  refine e_step (pc' := 892) hK rfl rfl rfl ?_
  refine e_cQV1 (z := 163) hK rfl rfl (by first | (simp only [mH_t64]; rfl) | (show _ = 2; assumption) | (show _ = 1; assumption) | (show _ = 0; assumption) | (show _ = 3; assumption) | (show _ = 4; assumption) | exact rfl) rfl (Nat.le_of_ble_eq_true rfl) (Nat.le_of_ble_eq_true rfl) (g_learnAll hM) ?_
  rintro _ _ _ ⟨rfl, rfl, w, rfl, hM2⟩
  refine ⟨by show (0 : Nat) ≠ 4; decide, ?_⟩
  rw [if_neg (by show ¬ (0 : Nat) = 3; decide)]
  show mv_Ev _ _ 895 _ _ _ _ _
  refine e_icmp (t := 1531) (pc' := 898) hK rfl (by first | omega | assumption | exact hs _) (by first | omega | assumption | exact hs _) (by decide) rfl (fun hb895 => ?_) (fun hb895 => ?_)
  · replace hb895 := cq_eq.1.mp hb895
    exact K _ w g1 _ _ _ ⟨hl.mv, hM2, p1, p2⟩ hg
  · replace hb895 := cq_eq.2.mp hb895
    exfalso; first | omega | exact absurd trivial (by assumption) | (first | omega | assumption | exact hs _)
set_option maxRecDepth 10000 in
theorem r_open {Q : mv_R → mv_C → mv_H → Prop} {W : wt} {v : mvt} {m o s_ : Nat} (hI : LI W v m h) (hs : ∀ j : Int, mv_i (sc.2 j)) (i : Int) (hi : 0 ≤ i) (hn : i + 4 ≤ sc.1) (a5 a6 : mv_V) (K : ∀ (W1 : wt) (v1 : mvt) (g1 : mv_H) (c1 : mv_C) (b5 b6 : mv_V), LI W1 v1 c1.1 g1 → cgr (m, o, s_) c1 → mv_Ev sc 205 1531 [(4, 0), (2, 0), (2, 264), (2, 276), (0, i), b5, b6] [] c1 (mH g1 v1) Q) : mv_Ev sc 205 900 [(4, 0), (2, 0), (2, 264), (2, 276), (0, i), a5, a6] [] (m, o, s_) (mH h v) Q := by
  obtain ⟨hL, hM, q1, q2⟩ := hI
  have o1 : (mH h v 276).1 = 13 := by { rw [m76]; exact q1 }
  have o2 : (mH h v 276).2.1 = 1 := by { rw [m76]; exact q2 }
  have a0 : (mH h v 0).1 = 0 := hL.1.1.1
  have hK : (mv_m 205).1 = kc_Law_law := rfl
  refine e_step (pc' := 901) hK rfl rfl rfl ?_
  refine e_step (pc' := 902) hK rfl rfl rfl ?_
  refine e_step (pc' := 904) hK rfl rfl rfl ?_
  refine e_step (pc' := 905) hK rfl rfl rfl ?_
  refine e_step (pc' := 906) hK rfl rfl rfl ?_
  refine e_sil (pc' := 907) hK rfl (by first | omega | assumption | exact hs _) (by first | omega | assumption | exact hs _) rfl ?_
  refine e_step (pc' := 908) hK rfl rfl rfl ?_
  refine e_step (pc' := 910) hK rfl rfl rfl ?_
  refine e_step (pc' := 911) hK rfl rfl rfl ?_
  refine e_step (pc' := 912) hK rfl rfl rfl ?_
  refine e_sil (pc' := 913) hK rfl (by first | omega | assumption | exact hs _) (by first | omega | assumption | exact hs _) rfl ?_
  refine e_step (pc' := 914) hK rfl rfl rfl ?_
  refine e_cQS4 (z := 196) hK rfl rfl rfl (Nat.le_of_ble_eq_true rfl) (Nat.le_of_ble_eq_true rfl) (w_open hL o1 o2 (sc.2 (i + 1)) (hs _) (sc.2 (i + 2)) (hs _)) ?_
  rintro _ c1 h1 ⟨rfl, hg, hl, hf, hx, p1, p2, hv⟩
  refine ⟨by show (0 : Nat) ≠ 4; decide, ?_⟩
  rw [if_neg (by show ¬ (0 : Nat) = 3; decide)]
  obtain ⟨g1, rfl⟩ : ∃ g : mv_H, h1 = mH g v := ⟨h1, mH_of hf⟩
  rw [m76] at p1 p2 hv
  have hk := kk_open W (sc.2 (i + 1)) (sc.2 (i + 2))
  show mv_Ev _ _ 917 _ _ _ _ _
  refine e_step (pc' := 919) hK rfl rfl rfl ?_
  try simp only [List.set_cons_zero, List.set_cons_succ]
  refine e_step (pc' := 920) hK rfl rfl rfl ?_
  refine e_step (pc' := 921) hK rfl rfl rfl ?_
  refine e_step (pc' := 923) hK rfl rfl rfl ?_
  refine e_step (pc' := 924) hK rfl rfl rfl ?_
  refine e_step (pc' := 925) hK rfl rfl rfl ?_
  refine e_sil (pc' := 926) hK rfl (by first | omega | assumption | exact hs _) (by first | omega | assumption | exact hs _) rfl ?_
  refine e_step (pc' := 927) hK rfl rfl rfl ?_
  refine e_step (pc' := 929) hK rfl rfl rfl ?_
  refine e_step (pc' := 930) hK rfl rfl rfl ?_
  refine e_step (pc' := 931) hK rfl rfl rfl ?_
  refine e_sil (pc' := 932) hK rfl (by first | omega | assumption | exact hs _) (by first | omega | assumption | exact hs _) rfl ?_
  refine e_cQV3 (z := 165) hK rfl rfl (by first | (simp only [mH_t64, p1, p2]; rfl) | (show _ = 2; assumption) | (show _ = 1; assumption) | (show _ = 0; assumption) | (show _ = 3; assumption) | (show _ = 4; assumption) | exact rfl) rfl (Nat.le_of_ble_eq_true rfl) (Nat.le_of_ble_eq_true rfl) (g_open hM (sc.2 (i + 1)) (hs _) (sc.2 (i + 2)) (hs _)) ?_
  rintro _ _ _ ⟨rfl, rfl, w, rfl, hM2, hw⟩
  refine ⟨by show (0 : Nat) ≠ 4; decide, ?_⟩
  rw [if_neg (by show ¬ (0 : Nat) = 3; decide)]
  have e76 : mH g1 w 276 = g1 276 := m76
  show mv_Ev _ _ 935 _ _ _ _ _
  refine e_step (pc' := 937) hK rfl rfl rfl ?_
  try simp only [List.set_cons_zero, List.set_cons_succ]
  refine e_step (pc' := 938) hK rfl rfl rfl ?_
  refine e_cRV1 (z := 107) (pc' := 941) hK rfl rfl (by first | (simp only [mH_t64, p1, p2, e76]; rfl) | (show _ = 2; assumption) | (show _ = 1; assumption) | (show _ = 0; assumption) | (show _ = 3; assumption) | (show _ = 4; assumption) | exact rfl) rfl (Nat.le_of_ble_eq_true rfl) (Nat.le_of_ble_eq_true rfl) (g_thrown _ hw) (by decide) rfl ?_
  try simp only [mH_t64, p1, p2, e76]
  refine e_step (pc' := 943) hK rfl rfl rfl ?_
  refine e_icmp (t := 948) (pc' := 946) hK rfl (by first | omega | assumption | exact hs _) (by first | omega | assumption | exact hs _) (by decide) rfl (fun hb943 => ?_) (fun hb943 => ?_)
  · replace hb943 := cq_eq.1.mp hb943
    refine e_step (pc' := 950) hK rfl rfl rfl ?_
    refine e_if (t := 965) (pc' := 953) hK rfl (by first | omega | assumption | exact hs _) (by decide) rfl (fun hb950 => ?_) (fun hb950 => ?_)
    · replace hb950 := cq_ne.1.mp hb950
      refine e_goto (t := 1531) hK rfl (by decide) ?_
      exact K _ w g1 _ _ _ ⟨hl.mv, hM2, p1, p2⟩ hg
    · replace hb950 := cq_ne.2.mp hb950
      have ev : (g1 276).2.2 0 = (sp_open W (sc.2 (i + 1)) (sc.2 (i + 2))).2.1 := hv (by omega)
      refine e_step (pc' := 954) hK rfl rfl rfl ?_
      refine e_step (pc' := 955) hK rfl rfl rfl ?_
      refine e_lald (pc' := 956) hK rfl (by simp only [mH_t64, p1, p2, e76, ev]) (by first | omega | assumption | exact hs _) (by (try simp only [mH_t64, p1, p2, e76, ev]); first | omega | assumption | exact hs _) rfl ?_
      try simp only [mH_t64, p1, p2, e76, ev]
      refine e_step (pc' := 958) hK rfl rfl rfl ?_
      refine e_i2l (pc' := 959) hK rfl (by first | omega | assumption | exact hs _) rfl ?_
      refine e_lcmp (pc' := 960) hK rfl (by first | omega | assumption | exact hs _) (by first | omega | assumption | exact hs _) rfl ?_
      rw [cL_s]
      refine e_if (t := 965) (pc' := 963) hK rfl (by first | omega | assumption | exact hs _) (by decide) rfl (fun hb960 => ?_) (fun hb960 => ?_)
      · replace hb960 := cq_eq.1.mp hb960
        refine e_goto (t := 1531) hK rfl (by decide) ?_
        exact K _ w g1 _ _ _ ⟨hl.mv, hM2, p1, p2⟩ hg
      · replace hb960 := cq_eq.2.mp hb960
        exfalso; first | omega | exact absurd trivial (by assumption) | (first | omega | assumption | exact hs _)
  · replace hb943 := cq_eq.2.mp hb943
    exfalso; first | omega | exact absurd trivial (by assumption) | (first | omega | assumption | exact hs _)
set_option maxRecDepth 10000 in
theorem r_forget {Q : mv_R → mv_C → mv_H → Prop} {W : wt} {v : mvt} {m o s_ : Nat} (hI : LI W v m h) (hs : ∀ j : Int, mv_i (sc.2 j)) (i : Int) (hi : 0 ≤ i) (hn : i + 4 ≤ sc.1) (a5 a6 : mv_V) (K : ∀ (W1 : wt) (v1 : mvt) (g1 : mv_H) (c1 : mv_C) (b5 b6 : mv_V), LI W1 v1 c1.1 g1 → cgr (m, o, s_) c1 → mv_Ev sc 205 1531 [(4, 0), (2, 0), (2, 264), (2, 276), (0, i), b5, b6] [] c1 (mH g1 v1) Q) : mv_Ev sc 205 968 [(4, 0), (2, 0), (2, 264), (2, 276), (0, i), a5, a6] [] (m, o, s_) (mH h v) Q := by
  obtain ⟨hL, hM, q1, q2⟩ := hI
  have o1 : (mH h v 276).1 = 13 := by { rw [m76]; exact q1 }
  have o2 : (mH h v 276).2.1 = 1 := by { rw [m76]; exact q2 }
  have a0 : (mH h v 0).1 = 0 := hL.1.1.1
  have hK : (mv_m 205).1 = kc_Law_law := rfl
  refine e_step (pc' := 969) hK rfl rfl rfl ?_
  refine e_step (pc' := 970) hK rfl rfl rfl ?_
  refine e_cQS2 (z := 197) hK rfl rfl rfl (Nat.le_of_ble_eq_true rfl) (Nat.le_of_ble_eq_true rfl) (w_forget hL o1 o2) ?_
  rintro _ c1 h1 ⟨rfl, hg, hl, hf, hx, p1, p2, hv⟩
  refine ⟨by show (0 : Nat) ≠ 4; decide, ?_⟩
  rw [if_neg (by show ¬ (0 : Nat) = 3; decide)]
  obtain ⟨g1, rfl⟩ : ∃ g : mv_H, h1 = mH g v := ⟨h1, mH_of hf⟩
  rw [m76] at p1 p2 hv
  have hk := kk_forget W
  show mv_Ev _ _ 973 _ _ _ _ _
  refine e_step (pc' := 975) hK rfl rfl rfl ?_
  try simp only [List.set_cons_zero, List.set_cons_succ]
  refine e_step (pc' := 976) hK rfl rfl rfl ?_
  refine e_cQV1 (z := 166) hK rfl rfl (by first | (simp only [mH_t64, p1, p2]; rfl) | (show _ = 2; assumption) | (show _ = 1; assumption) | (show _ = 0; assumption) | (show _ = 3; assumption) | (show _ = 4; assumption) | exact rfl) rfl (Nat.le_of_ble_eq_true rfl) (Nat.le_of_ble_eq_true rfl) (g_forget hM) ?_
  rintro _ _ _ ⟨rfl, rfl, w, rfl, hM2, hw⟩
  refine ⟨by show (0 : Nat) ≠ 4; decide, ?_⟩
  rw [if_neg (by show ¬ (0 : Nat) = 3; decide)]
  have e76 : mH g1 w 276 = g1 276 := m76
  show mv_Ev _ _ 979 _ _ _ _ _
  refine e_step (pc' := 981) hK rfl rfl rfl ?_
  try simp only [List.set_cons_zero, List.set_cons_succ]
  refine e_step (pc' := 982) hK rfl rfl rfl ?_
  refine e_cRV1 (z := 107) (pc' := 985) hK rfl rfl (by first | (simp only [mH_t64, p1, p2, e76]; rfl) | (show _ = 2; assumption) | (show _ = 1; assumption) | (show _ = 0; assumption) | (show _ = 3; assumption) | (show _ = 4; assumption) | exact rfl) rfl (Nat.le_of_ble_eq_true rfl) (Nat.le_of_ble_eq_true rfl) (g_thrown _ hw) (by decide) rfl ?_
  try simp only [mH_t64, p1, p2, e76]
  refine e_step (pc' := 987) hK rfl rfl rfl ?_
  refine e_icmp (t := 992) (pc' := 990) hK rfl (by first | omega | assumption | exact hs _) (by first | omega | assumption | exact hs _) (by decide) rfl (fun hb987 => ?_) (fun hb987 => ?_)
  · replace hb987 := cq_eq.1.mp hb987
    refine e_step (pc' := 994) hK rfl rfl rfl ?_
    refine e_if (t := 1009) (pc' := 997) hK rfl (by first | omega | assumption | exact hs _) (by decide) rfl (fun hb994 => ?_) (fun hb994 => ?_)
    · replace hb994 := cq_ne.1.mp hb994
      refine e_goto (t := 1531) hK rfl (by decide) ?_
      exact K _ w g1 _ _ _ ⟨hl.mv, hM2, p1, p2⟩ hg
    · replace hb994 := cq_ne.2.mp hb994
      have ev : (g1 276).2.2 0 = (sp_forget W).2.1 := hv (by omega)
      refine e_step (pc' := 998) hK rfl rfl rfl ?_
      refine e_step (pc' := 999) hK rfl rfl rfl ?_
      refine e_lald (pc' := 1000) hK rfl (by simp only [mH_t64, p1, p2, e76, ev]) (by first | omega | assumption | exact hs _) (by (try simp only [mH_t64, p1, p2, e76, ev]); first | omega | assumption | exact hs _) rfl ?_
      try simp only [mH_t64, p1, p2, e76, ev]
      refine e_step (pc' := 1002) hK rfl rfl rfl ?_
      refine e_i2l (pc' := 1003) hK rfl (by first | omega | assumption | exact hs _) rfl ?_
      refine e_lcmp (pc' := 1004) hK rfl (by first | omega | assumption | exact hs _) (by first | omega | assumption | exact hs _) rfl ?_
      rw [cL_s]
      refine e_if (t := 1009) (pc' := 1007) hK rfl (by first | omega | assumption | exact hs _) (by decide) rfl (fun hb1004 => ?_) (fun hb1004 => ?_)
      · replace hb1004 := cq_eq.1.mp hb1004
        refine e_goto (t := 1531) hK rfl (by decide) ?_
        exact K _ w g1 _ _ _ ⟨hl.mv, hM2, p1, p2⟩ hg
      · replace hb1004 := cq_eq.2.mp hb1004
        exfalso; first | omega | exact absurd trivial (by assumption) | (first | omega | assumption | exact hs _)
  · replace hb987 := cq_eq.2.mp hb987
    exfalso; first | omega | exact absurd trivial (by assumption) | (first | omega | assumption | exact hs _)
set_option maxRecDepth 10000 in
theorem r_undo {Q : mv_R → mv_C → mv_H → Prop} {W : wt} {v : mvt} {m o s_ : Nat} (hI : LI W v m h) (hs : ∀ j : Int, mv_i (sc.2 j)) (i : Int) (hi : 0 ≤ i) (hn : i + 4 ≤ sc.1) (a5 a6 : mv_V) (K : ∀ (W1 : wt) (v1 : mvt) (g1 : mv_H) (c1 : mv_C) (b5 b6 : mv_V), LI W1 v1 c1.1 g1 → cgr (m, o, s_) c1 → mv_Ev sc 205 1531 [(4, 0), (2, 0), (2, 264), (2, 276), (0, i), b5, b6] [] c1 (mH g1 v1) Q) : mv_Ev sc 205 1012 [(4, 0), (2, 0), (2, 264), (2, 276), (0, i), a5, a6] [] (m, o, s_) (mH h v) Q := by
  obtain ⟨hL, hM, q1, q2⟩ := hI
  have o1 : (mH h v 276).1 = 13 := by { rw [m76]; exact q1 }
  have o2 : (mH h v 276).2.1 = 1 := by { rw [m76]; exact q2 }
  have a0 : (mH h v 0).1 = 0 := hL.1.1.1
  have hK : (mv_m 205).1 = kc_Law_law := rfl
  refine e_step (pc' := 1013) hK rfl rfl rfl ?_
  refine e_step (pc' := 1014) hK rfl rfl rfl ?_
  refine e_cQS2 (z := 198) hK rfl rfl rfl (Nat.le_of_ble_eq_true rfl) (Nat.le_of_ble_eq_true rfl) (w_undo hL o1 o2) ?_
  rintro _ c1 h1 ⟨rfl, hg, hl, hf, hx, p1, p2, hv⟩
  refine ⟨by show (0 : Nat) ≠ 4; decide, ?_⟩
  rw [if_neg (by show ¬ (0 : Nat) = 3; decide)]
  obtain ⟨g1, rfl⟩ : ∃ g : mv_H, h1 = mH g v := ⟨h1, mH_of hf⟩
  rw [m76] at p1 p2 hv
  have hk := kk_undo W
  show mv_Ev _ _ 1017 _ _ _ _ _
  refine e_step (pc' := 1019) hK rfl rfl rfl ?_
  try simp only [List.set_cons_zero, List.set_cons_succ]
  refine e_step (pc' := 1020) hK rfl rfl rfl ?_
  refine e_cQV1 (z := 168) hK rfl rfl (by first | (simp only [mH_t64, p1, p2]; rfl) | (show _ = 2; assumption) | (show _ = 1; assumption) | (show _ = 0; assumption) | (show _ = 3; assumption) | (show _ = 4; assumption) | exact rfl) rfl (Nat.le_of_ble_eq_true rfl) (Nat.le_of_ble_eq_true rfl) (g_undo hM) ?_
  rintro _ _ _ ⟨rfl, rfl, w, rfl, hM2, hw⟩
  refine ⟨by show (0 : Nat) ≠ 4; decide, ?_⟩
  rw [if_neg (by show ¬ (0 : Nat) = 3; decide)]
  have e76 : mH g1 w 276 = g1 276 := m76
  show mv_Ev _ _ 1023 _ _ _ _ _
  refine e_step (pc' := 1025) hK rfl rfl rfl ?_
  try simp only [List.set_cons_zero, List.set_cons_succ]
  refine e_step (pc' := 1026) hK rfl rfl rfl ?_
  refine e_cRV1 (z := 107) (pc' := 1029) hK rfl rfl (by first | (simp only [mH_t64, p1, p2, e76]; rfl) | (show _ = 2; assumption) | (show _ = 1; assumption) | (show _ = 0; assumption) | (show _ = 3; assumption) | (show _ = 4; assumption) | exact rfl) rfl (Nat.le_of_ble_eq_true rfl) (Nat.le_of_ble_eq_true rfl) (g_thrown _ hw) (by decide) rfl ?_
  try simp only [mH_t64, p1, p2, e76]
  refine e_step (pc' := 1031) hK rfl rfl rfl ?_
  refine e_icmp (t := 1036) (pc' := 1034) hK rfl (by first | omega | assumption | exact hs _) (by first | omega | assumption | exact hs _) (by decide) rfl (fun hb1031 => ?_) (fun hb1031 => ?_)
  · replace hb1031 := cq_eq.1.mp hb1031
    refine e_step (pc' := 1038) hK rfl rfl rfl ?_
    refine e_if (t := 1053) (pc' := 1041) hK rfl (by first | omega | assumption | exact hs _) (by decide) rfl (fun hb1038 => ?_) (fun hb1038 => ?_)
    · replace hb1038 := cq_ne.1.mp hb1038
      refine e_goto (t := 1531) hK rfl (by decide) ?_
      exact K _ w g1 _ _ _ ⟨hl.mv, hM2, p1, p2⟩ hg
    · replace hb1038 := cq_ne.2.mp hb1038
      have ev : (g1 276).2.2 0 = (sp_undo W).2.1 := hv (by omega)
      refine e_step (pc' := 1042) hK rfl rfl rfl ?_
      refine e_step (pc' := 1043) hK rfl rfl rfl ?_
      refine e_lald (pc' := 1044) hK rfl (by simp only [mH_t64, p1, p2, e76, ev]) (by first | omega | assumption | exact hs _) (by (try simp only [mH_t64, p1, p2, e76, ev]); first | omega | assumption | exact hs _) rfl ?_
      try simp only [mH_t64, p1, p2, e76, ev]
      refine e_step (pc' := 1046) hK rfl rfl rfl ?_
      refine e_i2l (pc' := 1047) hK rfl (by first | omega | assumption | exact hs _) rfl ?_
      refine e_lcmp (pc' := 1048) hK rfl (by first | omega | assumption | exact hs _) (by first | omega | assumption | exact hs _) rfl ?_
      rw [cL_s]
      refine e_if (t := 1053) (pc' := 1051) hK rfl (by first | omega | assumption | exact hs _) (by decide) rfl (fun hb1048 => ?_) (fun hb1048 => ?_)
      · replace hb1048 := cq_eq.1.mp hb1048
        refine e_goto (t := 1531) hK rfl (by decide) ?_
        exact K _ w g1 _ _ _ ⟨hl.mv, hM2, p1, p2⟩ hg
      · replace hb1048 := cq_eq.2.mp hb1048
        exfalso; first | omega | exact absurd trivial (by assumption) | (first | omega | assumption | exact hs _)
  · replace hb1031 := cq_eq.2.mp hb1031
    exfalso; first | omega | exact absurd trivial (by assumption) | (first | omega | assumption | exact hs _)
set_option maxRecDepth 10000 in
theorem r_which {Q : mv_R → mv_C → mv_H → Prop} {W : wt} {v : mvt} {m o s_ : Nat} (hI : LI W v m h) (hs : ∀ j : Int, mv_i (sc.2 j)) (i : Int) (hi : 0 ≤ i) (hn : i + 4 ≤ sc.1) (a5 a6 : mv_V) (K : ∀ (W1 : wt) (v1 : mvt) (g1 : mv_H) (c1 : mv_C) (b5 b6 : mv_V), LI W1 v1 c1.1 g1 → cgr (m, o, s_) c1 → mv_Ev sc 205 1531 [(4, 0), (2, 0), (2, 264), (2, 276), (0, i), b5, b6] [] c1 (mH g1 v1) Q) : mv_Ev sc 205 1056 [(4, 0), (2, 0), (2, 264), (2, 276), (0, i), a5, a6] [] (m, o, s_) (mH h v) Q := by
  obtain ⟨hL, hM, q1, q2⟩ := hI
  have o1 : (mH h v 276).1 = 13 := by { rw [m76]; exact q1 }
  have o2 : (mH h v 276).2.1 = 1 := by { rw [m76]; exact q2 }
  have a0 : (mH h v 0).1 = 0 := hL.1.1.1
  have hK : (mv_m 205).1 = kc_Law_law := rfl
  refine e_step (pc' := 1057) hK rfl rfl rfl ?_
  refine e_cQV1 (z := 47) hK rfl rfl (by first | (simp only [mH_t64]; rfl) | (show _ = 2; assumption) | (show _ = 1; assumption) | (show _ = 0; assumption) | (show _ = 3; assumption) | (show _ = 4; assumption) | exact rfl) rfl (Nat.le_of_ble_eq_true rfl) (Nat.le_of_ble_eq_true rfl) (lf_which hL) ?_
  rintro _ c1 h1 ⟨rfl, hg, hl, hf, hx⟩
  rw [show clr 9 9 (sp_which W).1 (sp_which W).2.1 = (0, (sp_which W).2.1) from rfl]
  refine ⟨by show (0 : Nat) ≠ 4; decide, ?_⟩
  rw [if_neg (by show ¬ (0 : Nat) = 3; decide)]
  obtain ⟨g1, rfl⟩ : ∃ g : mv_H, h1 = mH g v := ⟨h1, mH_of (fun b b0 b1 => hf b b0 (by omega))⟩
  have p1 : (g1 276).1 = 13 := by { rw [← m76 (h := g1) (v := v), hf 276 (by omega) (by omega)]; exact o1 }
  have p2 : (g1 276).2.1 = 1 := by { rw [← m76 (h := g1) (v := v), hf 276 (by omega) (by omega)]; exact o2 }
  show mv_Ev _ _ 1060 _ _ _ _ _
  refine e_step (pc' := 1061) hK rfl rfl rfl ?_
  refine e_cQV1 (z := 169) hK rfl rfl (by first | (simp only [mH_t64]; rfl) | (show _ = 2; assumption) | (show _ = 1; assumption) | (show _ = 0; assumption) | (show _ = 3; assumption) | (show _ = 4; assumption) | exact rfl) rfl (Nat.le_of_ble_eq_true rfl) (Nat.le_of_ble_eq_true rfl) (g_which hM) ?_
  rintro _ _ _ ⟨rfl, rfl, w, rfl, hM2⟩
  refine ⟨by show (0 : Nat) ≠ 4; decide, ?_⟩
  rw [if_neg (by show ¬ (0 : Nat) = 3; decide)]
  show mv_Ev _ _ 1064 _ _ _ _ _
  refine e_icmp (t := 1531) (pc' := 1067) hK rfl (by first | omega | assumption | exact hs _) (by first | omega | assumption | exact hs _) (by decide) rfl (fun hb1064 => ?_) (fun hb1064 => ?_)
  · replace hb1064 := cq_eq.1.mp hb1064
    exact K _ w g1 _ _ _ ⟨hl.mv, hM2, p1, p2⟩ hg
  · replace hb1064 := cq_eq.2.mp hb1064
    exfalso; first | omega | exact absurd trivial (by assumption) | (first | omega | assumption | exact hs _)
set_option maxRecDepth 10000 in
theorem r_cost {Q : mv_R → mv_C → mv_H → Prop} {W : wt} {v : mvt} {m o s_ : Nat} (hI : LI W v m h) (hs : ∀ j : Int, mv_i (sc.2 j)) (i : Int) (hi : 0 ≤ i) (hn : i + 4 ≤ sc.1) (a5 a6 : mv_V) (K : ∀ (W1 : wt) (v1 : mvt) (g1 : mv_H) (c1 : mv_C) (b5 b6 : mv_V), LI W1 v1 c1.1 g1 → cgr (m, o, s_) c1 → mv_Ev sc 205 1531 [(4, 0), (2, 0), (2, 264), (2, 276), (0, i), b5, b6] [] c1 (mH g1 v1) Q) : mv_Ev sc 205 1069 [(4, 0), (2, 0), (2, 264), (2, 276), (0, i), a5, a6] [] (m, o, s_) (mH h v) Q := by
  obtain ⟨hL, hM, q1, q2⟩ := hI
  have o1 : (mH h v 276).1 = 13 := by { rw [m76]; exact q1 }
  have o2 : (mH h v 276).2.1 = 1 := by { rw [m76]; exact q2 }
  have a0 : (mH h v 0).1 = 0 := hL.1.1.1
  have hK : (mv_m 205).1 = kc_Law_law := rfl
  refine e_step (pc' := 1070) hK rfl rfl rfl ?_
  refine e_cQV1 (z := 48) hK rfl rfl (by first | (simp only [mH_t64]; rfl) | (show _ = 2; assumption) | (show _ = 1; assumption) | (show _ = 0; assumption) | (show _ = 3; assumption) | (show _ = 4; assumption) | exact rfl) rfl (Nat.le_of_ble_eq_true rfl) (Nat.le_of_ble_eq_true rfl) (lf_cost hL) ?_
  rintro _ c1 h1 ⟨rfl, hg, hl, hf, hx⟩
  rw [show clr 9 9 (sp_cost W).1 (sp_cost W).2.1 = (0, (sp_cost W).2.1) from rfl]
  refine ⟨by show (0 : Nat) ≠ 4; decide, ?_⟩
  rw [if_neg (by show ¬ (0 : Nat) = 3; decide)]
  obtain ⟨g1, rfl⟩ : ∃ g : mv_H, h1 = mH g v := ⟨h1, mH_of (fun b b0 b1 => hf b b0 (by omega))⟩
  have p1 : (g1 276).1 = 13 := by { rw [← m76 (h := g1) (v := v), hf 276 (by omega) (by omega)]; exact o1 }
  have p2 : (g1 276).2.1 = 1 := by { rw [← m76 (h := g1) (v := v), hf 276 (by omega) (by omega)]; exact o2 }
  show mv_Ev _ _ 1073 _ _ _ _ _
  refine e_step (pc' := 1074) hK rfl rfl rfl ?_
  refine e_cQV1 (z := 170) hK rfl rfl (by first | (simp only [mH_t64]; rfl) | (show _ = 2; assumption) | (show _ = 1; assumption) | (show _ = 0; assumption) | (show _ = 3; assumption) | (show _ = 4; assumption) | exact rfl) rfl (Nat.le_of_ble_eq_true rfl) (Nat.le_of_ble_eq_true rfl) (g_cost hM) ?_
  rintro _ _ _ ⟨rfl, rfl, w, rfl, hM2⟩
  refine ⟨by show (0 : Nat) ≠ 4; decide, ?_⟩
  rw [if_neg (by show ¬ (0 : Nat) = 3; decide)]
  show mv_Ev _ _ 1077 _ _ _ _ _
  refine e_icmp (t := 1531) (pc' := 1080) hK rfl (by first | omega | assumption | exact hs _) (by first | omega | assumption | exact hs _) (by decide) rfl (fun hb1077 => ?_) (fun hb1077 => ?_)
  · replace hb1077 := cq_eq.1.mp hb1077
    exact K _ w g1 _ _ _ ⟨hl.mv, hM2, p1, p2⟩ hg
  · replace hb1077 := cq_eq.2.mp hb1077
    exfalso; first | omega | exact absurd trivial (by assumption) | (first | omega | assumption | exact hs _)
set_option maxRecDepth 10000 in
theorem r_saves {Q : mv_R → mv_C → mv_H → Prop} {W : wt} {v : mvt} {m o s_ : Nat} (hI : LI W v m h) (hs : ∀ j : Int, mv_i (sc.2 j)) (i : Int) (hi : 0 ≤ i) (hn : i + 4 ≤ sc.1) (a5 a6 : mv_V) (K : ∀ (W1 : wt) (v1 : mvt) (g1 : mv_H) (c1 : mv_C) (b5 b6 : mv_V), LI W1 v1 c1.1 g1 → cgr (m, o, s_) c1 → mv_Ev sc 205 1531 [(4, 0), (2, 0), (2, 264), (2, 276), (0, i), b5, b6] [] c1 (mH g1 v1) Q) : mv_Ev sc 205 1082 [(4, 0), (2, 0), (2, 264), (2, 276), (0, i), a5, a6] [] (m, o, s_) (mH h v) Q := by
  obtain ⟨hL, hM, q1, q2⟩ := hI
  have o1 : (mH h v 276).1 = 13 := by { rw [m76]; exact q1 }
  have o2 : (mH h v 276).2.1 = 1 := by { rw [m76]; exact q2 }
  have a0 : (mH h v 0).1 = 0 := hL.1.1.1
  have hK : (mv_m 205).1 = kc_Law_law := rfl
  refine e_step (pc' := 1083) hK rfl rfl rfl ?_
  refine e_cQV1 (z := 49) hK rfl rfl (by first | (simp only [mH_t64]; rfl) | (show _ = 2; assumption) | (show _ = 1; assumption) | (show _ = 0; assumption) | (show _ = 3; assumption) | (show _ = 4; assumption) | exact rfl) rfl (Nat.le_of_ble_eq_true rfl) (Nat.le_of_ble_eq_true rfl) (lf_saves hL) ?_
  rintro _ c1 h1 ⟨rfl, hg, hl, hf, hx⟩
  rw [show clr 9 9 (sp_saves W).1 (sp_saves W).2.1 = (0, (sp_saves W).2.1) from rfl]
  refine ⟨by show (0 : Nat) ≠ 4; decide, ?_⟩
  rw [if_neg (by show ¬ (0 : Nat) = 3; decide)]
  obtain ⟨g1, rfl⟩ : ∃ g : mv_H, h1 = mH g v := ⟨h1, mH_of (fun b b0 b1 => hf b b0 (by omega))⟩
  have p1 : (g1 276).1 = 13 := by { rw [← m76 (h := g1) (v := v), hf 276 (by omega) (by omega)]; exact o1 }
  have p2 : (g1 276).2.1 = 1 := by { rw [← m76 (h := g1) (v := v), hf 276 (by omega) (by omega)]; exact o2 }
  show mv_Ev _ _ 1086 _ _ _ _ _
  refine e_step (pc' := 1087) hK rfl rfl rfl ?_
  refine e_cQV1 (z := 171) hK rfl rfl (by first | (simp only [mH_t64]; rfl) | (show _ = 2; assumption) | (show _ = 1; assumption) | (show _ = 0; assumption) | (show _ = 3; assumption) | (show _ = 4; assumption) | exact rfl) rfl (Nat.le_of_ble_eq_true rfl) (Nat.le_of_ble_eq_true rfl) (g_saves hM) ?_
  rintro _ _ _ ⟨rfl, rfl, w, rfl, hM2⟩
  refine ⟨by show (0 : Nat) ≠ 4; decide, ?_⟩
  rw [if_neg (by show ¬ (0 : Nat) = 3; decide)]
  show mv_Ev _ _ 1090 _ _ _ _ _
  refine e_icmp (t := 1531) (pc' := 1093) hK rfl (by first | omega | assumption | exact hs _) (by first | omega | assumption | exact hs _) (by decide) rfl (fun hb1090 => ?_) (fun hb1090 => ?_)
  · replace hb1090 := cq_eq.1.mp hb1090
    exact K _ w g1 _ _ _ ⟨hl.mv, hM2, p1, p2⟩ hg
  · replace hb1090 := cq_eq.2.mp hb1090
    exfalso; first | omega | exact absurd trivial (by assumption) | (first | omega | assumption | exact hs _)
set_option maxRecDepth 10000 in
theorem r_next {Q : mv_R → mv_C → mv_H → Prop} {W : wt} {v : mvt} {m o s_ : Nat} (hI : LI W v m h) (hs : ∀ j : Int, mv_i (sc.2 j)) (i : Int) (hi : 0 ≤ i) (hn : i + 4 ≤ sc.1) (a5 a6 : mv_V) (K : ∀ (W1 : wt) (v1 : mvt) (g1 : mv_H) (c1 : mv_C) (b5 b6 : mv_V), LI W1 v1 c1.1 g1 → cgr (m, o, s_) c1 → mv_Ev sc 205 1531 [(4, 0), (2, 0), (2, 264), (2, 276), (0, i), b5, b6] [] c1 (mH g1 v1) Q) : mv_Ev sc 205 1095 [(4, 0), (2, 0), (2, 264), (2, 276), (0, i), a5, a6] [] (m, o, s_) (mH h v) Q := by
  obtain ⟨hL, hM, q1, q2⟩ := hI
  have o1 : (mH h v 276).1 = 13 := by { rw [m76]; exact q1 }
  have o2 : (mH h v 276).2.1 = 1 := by { rw [m76]; exact q2 }
  have a0 : (mH h v 0).1 = 0 := hL.1.1.1
  have hK : (mv_m 205).1 = kc_Law_law := rfl
  refine e_step (pc' := 1096) hK rfl rfl rfl ?_
  refine e_step (pc' := 1097) hK rfl rfl rfl ?_
  refine e_step (pc' := 1099) hK rfl rfl rfl ?_
  refine e_step (pc' := 1100) hK rfl rfl rfl ?_
  refine e_step (pc' := 1101) hK rfl rfl rfl ?_
  refine e_sil (pc' := 1102) hK rfl (by first | omega | assumption | exact hs _) (by first | omega | assumption | exact hs _) rfl ?_
  refine e_step (pc' := 1103) hK rfl rfl rfl ?_
  refine e_step (pc' := 1105) hK rfl rfl rfl ?_
  refine e_step (pc' := 1106) hK rfl rfl rfl ?_
  refine e_step (pc' := 1107) hK rfl rfl rfl ?_
  refine e_sil (pc' := 1108) hK rfl (by first | omega | assumption | exact hs _) (by first | omega | assumption | exact hs _) rfl ?_
  refine e_step (pc' := 1109) hK rfl rfl rfl ?_
  refine e_cQS4 (z := 199) hK rfl rfl rfl (Nat.le_of_ble_eq_true rfl) (Nat.le_of_ble_eq_true rfl) (w_next hL o1 o2 (sc.2 (i + 1)) (hs _) (sc.2 (i + 2)) (hs _)) ?_
  rintro _ c1 h1 ⟨rfl, hg, hl, hf, hx, p1, p2, hv⟩
  refine ⟨by show (0 : Nat) ≠ 4; decide, ?_⟩
  rw [if_neg (by show ¬ (0 : Nat) = 3; decide)]
  obtain ⟨g1, rfl⟩ : ∃ g : mv_H, h1 = mH g v := ⟨h1, mH_of hf⟩
  rw [m76] at p1 p2 hv
  have hk := kk_next W (sc.2 (i + 1)) (sc.2 (i + 2))
  show mv_Ev _ _ 1112 _ _ _ _ _
  refine e_step (pc' := 1114) hK rfl rfl rfl ?_
  try simp only [List.set_cons_zero, List.set_cons_succ]
  refine e_step (pc' := 1115) hK rfl rfl rfl ?_
  refine e_step (pc' := 1116) hK rfl rfl rfl ?_
  refine e_step (pc' := 1118) hK rfl rfl rfl ?_
  refine e_step (pc' := 1119) hK rfl rfl rfl ?_
  refine e_step (pc' := 1120) hK rfl rfl rfl ?_
  refine e_sil (pc' := 1121) hK rfl (by first | omega | assumption | exact hs _) (by first | omega | assumption | exact hs _) rfl ?_
  refine e_step (pc' := 1122) hK rfl rfl rfl ?_
  refine e_step (pc' := 1124) hK rfl rfl rfl ?_
  refine e_step (pc' := 1125) hK rfl rfl rfl ?_
  refine e_step (pc' := 1126) hK rfl rfl rfl ?_
  refine e_sil (pc' := 1127) hK rfl (by first | omega | assumption | exact hs _) (by first | omega | assumption | exact hs _) rfl ?_
  refine e_cQV3 (z := 172) hK rfl rfl (by first | (simp only [mH_t64, p1, p2]; rfl) | (show _ = 2; assumption) | (show _ = 1; assumption) | (show _ = 0; assumption) | (show _ = 3; assumption) | (show _ = 4; assumption) | exact rfl) rfl (Nat.le_of_ble_eq_true rfl) (Nat.le_of_ble_eq_true rfl) (g_next hM (sc.2 (i + 1)) (hs _) (sc.2 (i + 2)) (hs _)) ?_
  rintro _ _ _ ⟨rfl, rfl, w, rfl, hM2, hw⟩
  refine ⟨by show (0 : Nat) ≠ 4; decide, ?_⟩
  rw [if_neg (by show ¬ (0 : Nat) = 3; decide)]
  have e76 : mH g1 w 276 = g1 276 := m76
  show mv_Ev _ _ 1130 _ _ _ _ _
  refine e_step (pc' := 1132) hK rfl rfl rfl ?_
  try simp only [List.set_cons_zero, List.set_cons_succ]
  refine e_step (pc' := 1133) hK rfl rfl rfl ?_
  refine e_cRV1 (z := 107) (pc' := 1136) hK rfl rfl (by first | (simp only [mH_t64, p1, p2, e76]; rfl) | (show _ = 2; assumption) | (show _ = 1; assumption) | (show _ = 0; assumption) | (show _ = 3; assumption) | (show _ = 4; assumption) | exact rfl) rfl (Nat.le_of_ble_eq_true rfl) (Nat.le_of_ble_eq_true rfl) (g_thrown _ hw) (by decide) rfl ?_
  try simp only [mH_t64, p1, p2, e76]
  refine e_step (pc' := 1138) hK rfl rfl rfl ?_
  refine e_icmp (t := 1143) (pc' := 1141) hK rfl (by first | omega | assumption | exact hs _) (by first | omega | assumption | exact hs _) (by decide) rfl (fun hb1138 => ?_) (fun hb1138 => ?_)
  · replace hb1138 := cq_eq.1.mp hb1138
    refine e_step (pc' := 1145) hK rfl rfl rfl ?_
    refine e_if (t := 1160) (pc' := 1148) hK rfl (by first | omega | assumption | exact hs _) (by decide) rfl (fun hb1145 => ?_) (fun hb1145 => ?_)
    · replace hb1145 := cq_ne.1.mp hb1145
      refine e_goto (t := 1531) hK rfl (by decide) ?_
      exact K _ w g1 _ _ _ ⟨hl.mv, hM2, p1, p2⟩ hg
    · replace hb1145 := cq_ne.2.mp hb1145
      have ev : (g1 276).2.2 0 = (sp_next W (sc.2 (i + 1)) (sc.2 (i + 2))).2.1 := hv (by omega)
      refine e_step (pc' := 1149) hK rfl rfl rfl ?_
      refine e_step (pc' := 1150) hK rfl rfl rfl ?_
      refine e_lald (pc' := 1151) hK rfl (by simp only [mH_t64, p1, p2, e76, ev]) (by first | omega | assumption | exact hs _) (by (try simp only [mH_t64, p1, p2, e76, ev]); first | omega | assumption | exact hs _) rfl ?_
      try simp only [mH_t64, p1, p2, e76, ev]
      refine e_step (pc' := 1153) hK rfl rfl rfl ?_
      refine e_i2l (pc' := 1154) hK rfl (by first | omega | assumption | exact hs _) rfl ?_
      refine e_lcmp (pc' := 1155) hK rfl (by first | omega | assumption | exact hs _) (by first | omega | assumption | exact hs _) rfl ?_
      rw [cL_s]
      refine e_if (t := 1160) (pc' := 1158) hK rfl (by first | omega | assumption | exact hs _) (by decide) rfl (fun hb1155 => ?_) (fun hb1155 => ?_)
      · replace hb1155 := cq_eq.1.mp hb1155
        refine e_goto (t := 1531) hK rfl (by decide) ?_
        exact K _ w g1 _ _ _ ⟨hl.mv, hM2, p1, p2⟩ hg
      · replace hb1155 := cq_eq.2.mp hb1155
        exfalso; first | omega | exact absurd trivial (by assumption) | (first | omega | assumption | exact hs _)
  · replace hb1138 := cq_eq.2.mp hb1138
    exfalso; first | omega | exact absurd trivial (by assumption) | (first | omega | assumption | exact hs _)
set_option maxRecDepth 10000 in
theorem r_withv {Q : mv_R → mv_C → mv_H → Prop} {W : wt} {v : mvt} {m o s_ : Nat} (hI : LI W v m h) (hs : ∀ j : Int, mv_i (sc.2 j)) (i : Int) (hi : 0 ≤ i) (hn : i + 4 ≤ sc.1) (a5 a6 : mv_V) (K : ∀ (W1 : wt) (v1 : mvt) (g1 : mv_H) (c1 : mv_C) (b5 b6 : mv_V), LI W1 v1 c1.1 g1 → cgr (m, o, s_) c1 → mv_Ev sc 205 1531 [(4, 0), (2, 0), (2, 264), (2, 276), (0, i), b5, b6] [] c1 (mH g1 v1) Q) : mv_Ev sc 205 1163 [(4, 0), (2, 0), (2, 264), (2, 276), (0, i), a5, a6] [] (m, o, s_) (mH h v) Q := by
  obtain ⟨hL, hM, q1, q2⟩ := hI
  have o1 : (mH h v 276).1 = 13 := by { rw [m76]; exact q1 }
  have o2 : (mH h v 276).2.1 = 1 := by { rw [m76]; exact q2 }
  have a0 : (mH h v 0).1 = 0 := hL.1.1.1
  have hK : (mv_m 205).1 = kc_Law_law := rfl
  refine e_step (pc' := 1164) hK rfl rfl rfl ?_
  refine e_step (pc' := 1165) hK rfl rfl rfl ?_
  refine e_step (pc' := 1167) hK rfl rfl rfl ?_
  refine e_step (pc' := 1168) hK rfl rfl rfl ?_
  refine e_step (pc' := 1169) hK rfl rfl rfl ?_
  refine e_sil (pc' := 1170) hK rfl (by first | omega | assumption | exact hs _) (by first | omega | assumption | exact hs _) rfl ?_
  refine e_step (pc' := 1171) hK rfl rfl rfl ?_
  refine e_cQS3 (z := 200) hK rfl rfl rfl (Nat.le_of_ble_eq_true rfl) (Nat.le_of_ble_eq_true rfl) (w_withv hL o1 o2 (sc.2 (i + 1)) (hs _)) ?_
  rintro _ c1 h1 ⟨rfl, hg, hl, hf, hx, p1, p2, hv⟩
  refine ⟨by show (0 : Nat) ≠ 4; decide, ?_⟩
  rw [if_neg (by show ¬ (0 : Nat) = 3; decide)]
  obtain ⟨g1, rfl⟩ : ∃ g : mv_H, h1 = mH g v := ⟨h1, mH_of hf⟩
  rw [m76] at p1 p2 hv
  have hk := kk_withv W (sc.2 (i + 1))
  show mv_Ev _ _ 1174 _ _ _ _ _
  refine e_step (pc' := 1176) hK rfl rfl rfl ?_
  try simp only [List.set_cons_zero, List.set_cons_succ]
  refine e_step (pc' := 1177) hK rfl rfl rfl ?_
  refine e_step (pc' := 1178) hK rfl rfl rfl ?_
  refine e_step (pc' := 1180) hK rfl rfl rfl ?_
  refine e_step (pc' := 1181) hK rfl rfl rfl ?_
  refine e_step (pc' := 1182) hK rfl rfl rfl ?_
  refine e_sil (pc' := 1183) hK rfl (by first | omega | assumption | exact hs _) (by first | omega | assumption | exact hs _) rfl ?_
  refine e_cQV2 (z := 176) hK rfl rfl (by first | (simp only [mH_t64, p1, p2]; rfl) | (show _ = 2; assumption) | (show _ = 1; assumption) | (show _ = 0; assumption) | (show _ = 3; assumption) | (show _ = 4; assumption) | exact rfl) rfl (Nat.le_of_ble_eq_true rfl) (Nat.le_of_ble_eq_true rfl) (g_withv hM (sc.2 (i + 1)) (hs _)) ?_
  rintro _ _ _ ⟨rfl, rfl, w, rfl, hM2, hw⟩
  refine ⟨by show (0 : Nat) ≠ 4; decide, ?_⟩
  rw [if_neg (by show ¬ (0 : Nat) = 3; decide)]
  have e76 : mH g1 w 276 = g1 276 := m76
  show mv_Ev _ _ 1186 _ _ _ _ _
  refine e_step (pc' := 1188) hK rfl rfl rfl ?_
  try simp only [List.set_cons_zero, List.set_cons_succ]
  refine e_step (pc' := 1189) hK rfl rfl rfl ?_
  refine e_cRV1 (z := 107) (pc' := 1192) hK rfl rfl (by first | (simp only [mH_t64, p1, p2, e76]; rfl) | (show _ = 2; assumption) | (show _ = 1; assumption) | (show _ = 0; assumption) | (show _ = 3; assumption) | (show _ = 4; assumption) | exact rfl) rfl (Nat.le_of_ble_eq_true rfl) (Nat.le_of_ble_eq_true rfl) (g_thrown _ hw) (by decide) rfl ?_
  try simp only [mH_t64, p1, p2, e76]
  refine e_step (pc' := 1194) hK rfl rfl rfl ?_
  refine e_icmp (t := 1199) (pc' := 1197) hK rfl (by first | omega | assumption | exact hs _) (by first | omega | assumption | exact hs _) (by decide) rfl (fun hb1194 => ?_) (fun hb1194 => ?_)
  · replace hb1194 := cq_eq.1.mp hb1194
    refine e_step (pc' := 1201) hK rfl rfl rfl ?_
    refine e_if (t := 1216) (pc' := 1204) hK rfl (by first | omega | assumption | exact hs _) (by decide) rfl (fun hb1201 => ?_) (fun hb1201 => ?_)
    · replace hb1201 := cq_ne.1.mp hb1201
      refine e_goto (t := 1531) hK rfl (by decide) ?_
      exact K _ w g1 _ _ _ ⟨hl.mv, hM2, p1, p2⟩ hg
    · replace hb1201 := cq_ne.2.mp hb1201
      have ev : (g1 276).2.2 0 = (sp_withv W (sc.2 (i + 1))).2.1 := hv (by omega)
      refine e_step (pc' := 1205) hK rfl rfl rfl ?_
      refine e_step (pc' := 1206) hK rfl rfl rfl ?_
      refine e_lald (pc' := 1207) hK rfl (by simp only [mH_t64, p1, p2, e76, ev]) (by first | omega | assumption | exact hs _) (by (try simp only [mH_t64, p1, p2, e76, ev]); first | omega | assumption | exact hs _) rfl ?_
      try simp only [mH_t64, p1, p2, e76, ev]
      refine e_step (pc' := 1209) hK rfl rfl rfl ?_
      refine e_i2l (pc' := 1210) hK rfl (by first | omega | assumption | exact hs _) rfl ?_
      refine e_lcmp (pc' := 1211) hK rfl (by first | omega | assumption | exact hs _) (by first | omega | assumption | exact hs _) rfl ?_
      rw [cL_s]
      refine e_if (t := 1216) (pc' := 1214) hK rfl (by first | omega | assumption | exact hs _) (by decide) rfl (fun hb1211 => ?_) (fun hb1211 => ?_)
      · replace hb1211 := cq_eq.1.mp hb1211
        refine e_goto (t := 1531) hK rfl (by decide) ?_
        exact K _ w g1 _ _ _ ⟨hl.mv, hM2, p1, p2⟩ hg
      · replace hb1211 := cq_eq.2.mp hb1211
        exfalso; first | omega | exact absurd trivial (by assumption) | (first | omega | assumption | exact hs _)
  · replace hb1194 := cq_eq.2.mp hb1194
    exfalso; first | omega | exact absurd trivial (by assumption) | (first | omega | assumption | exact hs _)
set_option maxRecDepth 10000 in
theorem r_run {Q : mv_R → mv_C → mv_H → Prop} {W : wt} {v : mvt} {m o s_ : Nat} (hI : LI W v m h) (hs : ∀ j : Int, mv_i (sc.2 j)) (i : Int) (hi : 0 ≤ i) (hn : i + 4 ≤ sc.1) (a5 a6 : mv_V) (K : ∀ (W1 : wt) (v1 : mvt) (g1 : mv_H) (c1 : mv_C) (b5 b6 : mv_V), LI W1 v1 c1.1 g1 → cgr (m, o, s_) c1 → mv_Ev sc 205 1531 [(4, 0), (2, 0), (2, 264), (2, 276), (0, i), b5, b6] [] c1 (mH g1 v1) Q) : mv_Ev sc 205 1219 [(4, 0), (2, 0), (2, 264), (2, 276), (0, i), a5, a6] [] (m, o, s_) (mH h v) Q := by
  obtain ⟨hL, hM, q1, q2⟩ := hI
  have o1 : (mH h v 276).1 = 13 := by { rw [m76]; exact q1 }
  have o2 : (mH h v 276).2.1 = 1 := by { rw [m76]; exact q2 }
  have a0 : (mH h v 0).1 = 0 := hL.1.1.1
  have k2 := hs (i + 2)
  have hl9 : mv_l (sc.2 (i + 2) * 4294967296 + sc.2 (i + 3) % 4294967296) := by omega
  have hK : (mv_m 205).1 = kc_Law_law := rfl
  refine e_step (pc' := 1220) hK rfl rfl rfl ?_
  refine e_step (pc' := 1221) hK rfl rfl rfl ?_
  refine e_step (pc' := 1223) hK rfl rfl rfl ?_
  refine e_step (pc' := 1224) hK rfl rfl rfl ?_
  refine e_step (pc' := 1225) hK rfl rfl rfl ?_
  refine e_sil (pc' := 1226) hK rfl (by first | omega | assumption | exact hs _) (by first | omega | assumption | exact hs _) rfl ?_
  refine e_step (pc' := 1227) hK rfl rfl rfl ?_
  refine e_step (pc' := 1229) hK rfl rfl rfl ?_
  refine e_step (pc' := 1230) hK rfl rfl rfl ?_
  refine e_step (pc' := 1231) hK rfl rfl rfl ?_
  refine e_sil (pc' := 1232) hK rfl (by first | omega | assumption | exact hs _) (by first | omega | assumption | exact hs _) rfl ?_
  refine e_i2l (pc' := 1233) hK rfl (by first | omega | assumption | exact hs _) rfl ?_
  refine e_step (pc' := 1235) hK rfl rfl rfl ?_
  refine e_step (pc' := 1236) hK rfl rfl rfl ?_
  rw [p32]
  refine e_step (pc' := 1237) hK rfl rfl rfl ?_
  refine e_step (pc' := 1239) hK rfl rfl rfl ?_
  refine e_step (pc' := 1240) hK rfl rfl rfl ?_
  refine e_step (pc' := 1241) hK rfl rfl rfl ?_
  refine e_sil (pc' := 1242) hK rfl (by first | omega | assumption | exact hs _) (by first | omega | assumption | exact hs _) rfl ?_
  refine e_i2l (pc' := 1243) hK rfl (by first | omega | assumption | exact hs _) rfl ?_
  refine e_step (pc' := 1246) hK rfl rfl rfl ?_
  refine e_step (pc' := 1247) hK rfl rfl rfl ?_
  refine e_lor (pc' := 1248) hK rfl (by first | omega | assumption | exact hs _) (by first | omega | assumption | exact hs _) (by first | omega | assumption | exact hs _) rfl ?_
  refine e_step (pc' := 1249) hK rfl rfl rfl ?_
  refine e_cQS4 (z := 201) hK rfl rfl rfl (Nat.le_of_ble_eq_true rfl) (Nat.le_of_ble_eq_true rfl) (w_run hL o1 o2 (sc.2 (i + 1)) (hs _) (sc.2 (i + 2) * 4294967296 + sc.2 (i + 3) % 4294967296) hl9) ?_
  rintro _ c1 h1 ⟨rfl, hg, hl, hf, hx, p1, p2, hv⟩
  refine ⟨by show (0 : Nat) ≠ 4; decide, ?_⟩
  rw [if_neg (by show ¬ (0 : Nat) = 3; decide)]
  obtain ⟨g1, rfl⟩ : ∃ g : mv_H, h1 = mH g v := ⟨h1, mH_of hf⟩
  rw [m76] at p1 p2 hv
  have hk := kk_run W (sc.2 (i + 1)) (sc.2 (i + 2) * 4294967296 + sc.2 (i + 3) % 4294967296)
  show mv_Ev _ _ 1252 _ _ _ _ _
  refine e_step (pc' := 1254) hK rfl rfl rfl ?_
  try simp only [List.set_cons_zero, List.set_cons_succ]
  refine e_step (pc' := 1255) hK rfl rfl rfl ?_
  refine e_step (pc' := 1256) hK rfl rfl rfl ?_
  refine e_step (pc' := 1258) hK rfl rfl rfl ?_
  refine e_step (pc' := 1259) hK rfl rfl rfl ?_
  refine e_step (pc' := 1260) hK rfl rfl rfl ?_
  refine e_sil (pc' := 1261) hK rfl (by first | omega | assumption | exact hs _) (by first | omega | assumption | exact hs _) rfl ?_
  refine e_step (pc' := 1262) hK rfl rfl rfl ?_
  refine e_step (pc' := 1264) hK rfl rfl rfl ?_
  refine e_step (pc' := 1265) hK rfl rfl rfl ?_
  refine e_step (pc' := 1266) hK rfl rfl rfl ?_
  refine e_sil (pc' := 1267) hK rfl (by first | omega | assumption | exact hs _) (by first | omega | assumption | exact hs _) rfl ?_
  refine e_i2l (pc' := 1268) hK rfl (by first | omega | assumption | exact hs _) rfl ?_
  refine e_step (pc' := 1270) hK rfl rfl rfl ?_
  refine e_step (pc' := 1271) hK rfl rfl rfl ?_
  rw [p32]
  refine e_step (pc' := 1272) hK rfl rfl rfl ?_
  refine e_step (pc' := 1274) hK rfl rfl rfl ?_
  refine e_step (pc' := 1275) hK rfl rfl rfl ?_
  refine e_step (pc' := 1276) hK rfl rfl rfl ?_
  refine e_sil (pc' := 1277) hK rfl (by first | omega | assumption | exact hs _) (by first | omega | assumption | exact hs _) rfl ?_
  refine e_i2l (pc' := 1278) hK rfl (by first | omega | assumption | exact hs _) rfl ?_
  refine e_step (pc' := 1281) hK rfl rfl rfl ?_
  refine e_step (pc' := 1282) hK rfl rfl rfl ?_
  refine e_lor (pc' := 1283) hK rfl (by first | omega | assumption | exact hs _) (by first | omega | assumption | exact hs _) (by first | omega | assumption | exact hs _) rfl ?_
  refine e_cQV3 (z := 177) hK rfl rfl (by first | (simp only [mH_t64, p1, p2]; rfl) | (show _ = 2; assumption) | (show _ = 1; assumption) | (show _ = 0; assumption) | (show _ = 3; assumption) | (show _ = 4; assumption) | exact rfl) rfl (Nat.le_of_ble_eq_true rfl) (Nat.le_of_ble_eq_true rfl) (g_run hM (sc.2 (i + 1)) (sc.2 (i + 2) * 4294967296 + sc.2 (i + 3) % 4294967296) (hs _) hl9) ?_
  rintro _ _ _ ⟨rfl, rfl, w, rfl, hM2, hw⟩
  refine ⟨by show (0 : Nat) ≠ 4; decide, ?_⟩
  rw [if_neg (by show ¬ (0 : Nat) = 3; decide)]
  have e76 : mH g1 w 276 = g1 276 := m76
  show mv_Ev _ _ 1286 _ _ _ _ _
  refine e_step (pc' := 1288) hK rfl rfl rfl ?_
  try simp only [List.set_cons_zero, List.set_cons_succ]
  refine e_step (pc' := 1289) hK rfl rfl rfl ?_
  refine e_cRV1 (z := 107) (pc' := 1292) hK rfl rfl (by first | (simp only [mH_t64, p1, p2, e76]; rfl) | (show _ = 2; assumption) | (show _ = 1; assumption) | (show _ = 0; assumption) | (show _ = 3; assumption) | (show _ = 4; assumption) | exact rfl) rfl (Nat.le_of_ble_eq_true rfl) (Nat.le_of_ble_eq_true rfl) (g_thrown _ hw) (by decide) rfl ?_
  try simp only [mH_t64, p1, p2, e76]
  refine e_step (pc' := 1294) hK rfl rfl rfl ?_
  refine e_icmp (t := 1299) (pc' := 1297) hK rfl (by first | omega | assumption | exact hs _) (by first | omega | assumption | exact hs _) (by decide) rfl (fun hb1294 => ?_) (fun hb1294 => ?_)
  · replace hb1294 := cq_eq.1.mp hb1294
    refine e_step (pc' := 1301) hK rfl rfl rfl ?_
    refine e_if (t := 1316) (pc' := 1304) hK rfl (by first | omega | assumption | exact hs _) (by decide) rfl (fun hb1301 => ?_) (fun hb1301 => ?_)
    · replace hb1301 := cq_ne.1.mp hb1301
      refine e_goto (t := 1531) hK rfl (by decide) ?_
      exact K _ w g1 _ _ _ ⟨hl.mv, hM2, p1, p2⟩ hg
    · replace hb1301 := cq_ne.2.mp hb1301
      have ev : (g1 276).2.2 0 = (sp_run W (sc.2 (i + 1)) (sc.2 (i + 2) * 4294967296 + sc.2 (i + 3) % 4294967296)).2.1 := hv (by omega)
      refine e_step (pc' := 1305) hK rfl rfl rfl ?_
      refine e_step (pc' := 1306) hK rfl rfl rfl ?_
      refine e_lald (pc' := 1307) hK rfl (by simp only [mH_t64, p1, p2, e76, ev]) (by first | omega | assumption | exact hs _) (by (try simp only [mH_t64, p1, p2, e76, ev]); first | omega | assumption | exact hs _) rfl ?_
      try simp only [mH_t64, p1, p2, e76, ev]
      refine e_step (pc' := 1309) hK rfl rfl rfl ?_
      refine e_i2l (pc' := 1310) hK rfl (by first | omega | assumption | exact hs _) rfl ?_
      refine e_lcmp (pc' := 1311) hK rfl (by first | omega | assumption | exact hs _) (by first | omega | assumption | exact hs _) rfl ?_
      rw [cL_s]
      refine e_if (t := 1316) (pc' := 1314) hK rfl (by first | omega | assumption | exact hs _) (by decide) rfl (fun hb1311 => ?_) (fun hb1311 => ?_)
      · replace hb1311 := cq_eq.1.mp hb1311
        refine e_goto (t := 1531) hK rfl (by decide) ?_
        exact K _ w g1 _ _ _ ⟨hl.mv, hM2, p1, p2⟩ hg
      · replace hb1311 := cq_eq.2.mp hb1311
        exfalso; first | omega | exact absurd trivial (by assumption) | (first | omega | assumption | exact hs _)
  · replace hb1294 := cq_eq.2.mp hb1294
    exfalso; first | omega | exact absurd trivial (by assumption) | (first | omega | assumption | exact hs _)
set_option maxRecDepth 10000 in
theorem r_sim {Q : mv_R → mv_C → mv_H → Prop} {W : wt} {v : mvt} {m o s_ : Nat} (hI : LI W v m h) (hs : ∀ j : Int, mv_i (sc.2 j)) (i : Int) (hi : 0 ≤ i) (hn : i + 4 ≤ sc.1) (a5 a6 : mv_V) (K : ∀ (W1 : wt) (v1 : mvt) (g1 : mv_H) (c1 : mv_C) (b5 b6 : mv_V), LI W1 v1 c1.1 g1 → cgr (m, o, s_) c1 → mv_Ev sc 205 1531 [(4, 0), (2, 0), (2, 264), (2, 276), (0, i), b5, b6] [] c1 (mH g1 v1) Q) : mv_Ev sc 205 1319 [(4, 0), (2, 0), (2, 264), (2, 276), (0, i), a5, a6] [] (m, o, s_) (mH h v) Q := by
  obtain ⟨hL, hM, q1, q2⟩ := hI
  have o1 : (mH h v 276).1 = 13 := by { rw [m76]; exact q1 }
  have o2 : (mH h v 276).2.1 = 1 := by { rw [m76]; exact q2 }
  have a0 : (mH h v 0).1 = 0 := hL.1.1.1
  have k1 := hs (i + 1)
  have hl9 : mv_l (sc.2 (i + 1) * 4294967296 + sc.2 (i + 2) % 4294967296) := by omega
  have hK : (mv_m 205).1 = kc_Law_law := rfl
  refine e_step (pc' := 1320) hK rfl rfl rfl ?_
  refine e_step (pc' := 1321) hK rfl rfl rfl ?_
  refine e_step (pc' := 1323) hK rfl rfl rfl ?_
  refine e_step (pc' := 1324) hK rfl rfl rfl ?_
  refine e_step (pc' := 1325) hK rfl rfl rfl ?_
  refine e_sil (pc' := 1326) hK rfl (by first | omega | assumption | exact hs _) (by first | omega | assumption | exact hs _) rfl ?_
  refine e_i2l (pc' := 1327) hK rfl (by first | omega | assumption | exact hs _) rfl ?_
  refine e_step (pc' := 1329) hK rfl rfl rfl ?_
  refine e_step (pc' := 1330) hK rfl rfl rfl ?_
  rw [p32]
  refine e_step (pc' := 1331) hK rfl rfl rfl ?_
  refine e_step (pc' := 1333) hK rfl rfl rfl ?_
  refine e_step (pc' := 1334) hK rfl rfl rfl ?_
  refine e_step (pc' := 1335) hK rfl rfl rfl ?_
  refine e_sil (pc' := 1336) hK rfl (by first | omega | assumption | exact hs _) (by first | omega | assumption | exact hs _) rfl ?_
  refine e_i2l (pc' := 1337) hK rfl (by first | omega | assumption | exact hs _) rfl ?_
  refine e_step (pc' := 1340) hK rfl rfl rfl ?_
  refine e_step (pc' := 1341) hK rfl rfl rfl ?_
  refine e_lor (pc' := 1342) hK rfl (by first | omega | assumption | exact hs _) (by first | omega | assumption | exact hs _) (by first | omega | assumption | exact hs _) rfl ?_
  refine e_step (pc' := 1343) hK rfl rfl rfl ?_
  refine e_step (pc' := 1345) hK rfl rfl rfl ?_
  refine e_step (pc' := 1346) hK rfl rfl rfl ?_
  refine e_step (pc' := 1347) hK rfl rfl rfl ?_
  refine e_sil (pc' := 1348) hK rfl (by first | omega | assumption | exact hs _) (by first | omega | assumption | exact hs _) rfl ?_
  refine e_step (pc' := 1349) hK rfl rfl rfl ?_
  refine e_cQS4 (z := 202) hK rfl rfl rfl (Nat.le_of_ble_eq_true rfl) (Nat.le_of_ble_eq_true rfl) (w_sim hL o1 o2 (sc.2 (i + 1) * 4294967296 + sc.2 (i + 2) % 4294967296) hl9 (sc.2 (i + 3)) (hs _)) ?_
  rintro _ c1 h1 ⟨rfl, hg, hl, hf, hx, p1, p2, hv⟩
  refine ⟨by show (0 : Nat) ≠ 4; decide, ?_⟩
  rw [if_neg (by show ¬ (0 : Nat) = 3; decide)]
  obtain ⟨g1, rfl⟩ : ∃ g : mv_H, h1 = mH g v := ⟨h1, mH_of hf⟩
  rw [m76] at p1 p2 hv
  have hk := kk_sim W (sc.2 (i + 1) * 4294967296 + sc.2 (i + 2) % 4294967296) (sc.2 (i + 3))
  show mv_Ev _ _ 1352 _ _ _ _ _
  refine e_step (pc' := 1354) hK rfl rfl rfl ?_
  try simp only [List.set_cons_zero, List.set_cons_succ]
  refine e_step (pc' := 1355) hK rfl rfl rfl ?_
  refine e_step (pc' := 1356) hK rfl rfl rfl ?_
  refine e_step (pc' := 1358) hK rfl rfl rfl ?_
  refine e_step (pc' := 1359) hK rfl rfl rfl ?_
  refine e_step (pc' := 1360) hK rfl rfl rfl ?_
  refine e_sil (pc' := 1361) hK rfl (by first | omega | assumption | exact hs _) (by first | omega | assumption | exact hs _) rfl ?_
  refine e_i2l (pc' := 1362) hK rfl (by first | omega | assumption | exact hs _) rfl ?_
  refine e_step (pc' := 1364) hK rfl rfl rfl ?_
  refine e_step (pc' := 1365) hK rfl rfl rfl ?_
  rw [p32]
  refine e_step (pc' := 1366) hK rfl rfl rfl ?_
  refine e_step (pc' := 1368) hK rfl rfl rfl ?_
  refine e_step (pc' := 1369) hK rfl rfl rfl ?_
  refine e_step (pc' := 1370) hK rfl rfl rfl ?_
  refine e_sil (pc' := 1371) hK rfl (by first | omega | assumption | exact hs _) (by first | omega | assumption | exact hs _) rfl ?_
  refine e_i2l (pc' := 1372) hK rfl (by first | omega | assumption | exact hs _) rfl ?_
  refine e_step (pc' := 1375) hK rfl rfl rfl ?_
  refine e_step (pc' := 1376) hK rfl rfl rfl ?_
  refine e_lor (pc' := 1377) hK rfl (by first | omega | assumption | exact hs _) (by first | omega | assumption | exact hs _) (by first | omega | assumption | exact hs _) rfl ?_
  refine e_step (pc' := 1378) hK rfl rfl rfl ?_
  refine e_step (pc' := 1380) hK rfl rfl rfl ?_
  refine e_step (pc' := 1381) hK rfl rfl rfl ?_
  refine e_step (pc' := 1382) hK rfl rfl rfl ?_
  refine e_sil (pc' := 1383) hK rfl (by first | omega | assumption | exact hs _) (by first | omega | assumption | exact hs _) rfl ?_
  refine e_cQV3 (z := 179) hK rfl rfl (by first | (simp only [mH_t64, p1, p2]; rfl) | (show _ = 2; assumption) | (show _ = 1; assumption) | (show _ = 0; assumption) | (show _ = 3; assumption) | (show _ = 4; assumption) | exact rfl) rfl (Nat.le_of_ble_eq_true rfl) (Nat.le_of_ble_eq_true rfl) (g_sim hM (sc.2 (i + 1) * 4294967296 + sc.2 (i + 2) % 4294967296) (sc.2 (i + 3)) (hs _)) ?_
  rintro _ _ _ ⟨rfl, rfl, w, rfl, hM2, hw⟩
  refine ⟨by show (0 : Nat) ≠ 4; decide, ?_⟩
  rw [if_neg (by show ¬ (0 : Nat) = 3; decide)]
  have e76 : mH g1 w 276 = g1 276 := m76
  show mv_Ev _ _ 1386 _ _ _ _ _
  refine e_step (pc' := 1388) hK rfl rfl rfl ?_
  try simp only [List.set_cons_zero, List.set_cons_succ]
  refine e_step (pc' := 1389) hK rfl rfl rfl ?_
  refine e_cRV1 (z := 107) (pc' := 1392) hK rfl rfl (by first | (simp only [mH_t64, p1, p2, e76]; rfl) | (show _ = 2; assumption) | (show _ = 1; assumption) | (show _ = 0; assumption) | (show _ = 3; assumption) | (show _ = 4; assumption) | exact rfl) rfl (Nat.le_of_ble_eq_true rfl) (Nat.le_of_ble_eq_true rfl) (g_thrown _ hw) (by decide) rfl ?_
  try simp only [mH_t64, p1, p2, e76]
  refine e_step (pc' := 1394) hK rfl rfl rfl ?_
  refine e_icmp (t := 1399) (pc' := 1397) hK rfl (by first | omega | assumption | exact hs _) (by first | omega | assumption | exact hs _) (by decide) rfl (fun hb1394 => ?_) (fun hb1394 => ?_)
  · replace hb1394 := cq_eq.1.mp hb1394
    refine e_step (pc' := 1401) hK rfl rfl rfl ?_
    refine e_if (t := 1416) (pc' := 1404) hK rfl (by first | omega | assumption | exact hs _) (by decide) rfl (fun hb1401 => ?_) (fun hb1401 => ?_)
    · replace hb1401 := cq_ne.1.mp hb1401
      refine e_goto (t := 1531) hK rfl (by decide) ?_
      exact K _ w g1 _ _ _ ⟨hl.mv, hM2, p1, p2⟩ hg
    · replace hb1401 := cq_ne.2.mp hb1401
      have ev : (g1 276).2.2 0 = (sp_sim W (sc.2 (i + 1) * 4294967296 + sc.2 (i + 2) % 4294967296) (sc.2 (i + 3))).2.1 := hv (by omega)
      refine e_step (pc' := 1405) hK rfl rfl rfl ?_
      refine e_step (pc' := 1406) hK rfl rfl rfl ?_
      refine e_lald (pc' := 1407) hK rfl (by simp only [mH_t64, p1, p2, e76, ev]) (by first | omega | assumption | exact hs _) (by (try simp only [mH_t64, p1, p2, e76, ev]); first | omega | assumption | exact hs _) rfl ?_
      try simp only [mH_t64, p1, p2, e76, ev]
      refine e_step (pc' := 1409) hK rfl rfl rfl ?_
      refine e_i2l (pc' := 1410) hK rfl (by first | omega | assumption | exact hs _) rfl ?_
      refine e_lcmp (pc' := 1411) hK rfl (by first | omega | assumption | exact hs _) (by first | omega | assumption | exact hs _) rfl ?_
      rw [cL_s]
      refine e_if (t := 1416) (pc' := 1414) hK rfl (by first | omega | assumption | exact hs _) (by decide) rfl (fun hb1411 => ?_) (fun hb1411 => ?_)
      · replace hb1411 := cq_eq.1.mp hb1411
        refine e_goto (t := 1531) hK rfl (by decide) ?_
        exact K _ w g1 _ _ _ ⟨hl.mv, hM2, p1, p2⟩ hg
      · replace hb1411 := cq_eq.2.mp hb1411
        exfalso; first | omega | exact absurd trivial (by assumption) | (first | omega | assumption | exact hs _)
  · replace hb1394 := cq_eq.2.mp hb1394
    exfalso; first | omega | exact absurd trivial (by assumption) | (first | omega | assumption | exact hs _)
set_option maxRecDepth 10000 in
theorem r_save {Q : mv_R → mv_C → mv_H → Prop} {W : wt} {v : mvt} {m o s_ : Nat} (hI : LI W v m h) (hs : ∀ j : Int, mv_i (sc.2 j)) (i : Int) (hi : 0 ≤ i) (hn : i + 4 ≤ sc.1) (a5 a6 : mv_V) (K : ∀ (W1 : wt) (v1 : mvt) (g1 : mv_H) (c1 : mv_C) (b5 b6 : mv_V), LI W1 v1 c1.1 g1 → cgr (m, o, s_) c1 → mv_Ev sc 205 1531 [(4, 0), (2, 0), (2, 264), (2, 276), (0, i), b5, b6] [] c1 (mH g1 v1) Q) : mv_Ev sc 205 1419 [(4, 0), (2, 0), (2, 264), (2, 276), (0, i), a5, a6] [] (m, o, s_) (mH h v) Q := by
  obtain ⟨hL, hM, q1, q2⟩ := hI
  have o1 : (mH h v 276).1 = 13 := by { rw [m76]; exact q1 }
  have o2 : (mH h v 276).2.1 = 1 := by { rw [m76]; exact q2 }
  have a0 : (mH h v 0).1 = 0 := hL.1.1.1
  have hK : (mv_m 205).1 = kc_Law_law := rfl
  refine e_step (pc' := 1420) hK rfl rfl rfl ?_
  refine e_step (pc' := 1421) hK rfl rfl rfl ?_
  refine e_step (pc' := 1423) hK rfl rfl rfl ?_
  refine e_step (pc' := 1424) hK rfl rfl rfl ?_
  refine e_step (pc' := 1425) hK rfl rfl rfl ?_
  refine e_sil (pc' := 1426) hK rfl (by first | omega | assumption | exact hs _) (by first | omega | assumption | exact hs _) rfl ?_
  refine e_step (pc' := 1427) hK rfl rfl rfl ?_
  refine e_cQS3 (z := 203) hK rfl rfl rfl (Nat.le_of_ble_eq_true rfl) (Nat.le_of_ble_eq_true rfl) (w_save hL o1 o2 (sc.2 (i + 1)) (hs _)) ?_
  rintro _ c1 h1 ⟨rfl, hg, hl, hf, hx, p1, p2, hv⟩
  refine ⟨by show (0 : Nat) ≠ 4; decide, ?_⟩
  rw [if_neg (by show ¬ (0 : Nat) = 3; decide)]
  obtain ⟨g1, rfl⟩ : ∃ g : mv_H, h1 = mH g v := ⟨h1, mH_of hf⟩
  rw [m76] at p1 p2 hv
  have hk := kk_save W (sc.2 (i + 1))
  show mv_Ev _ _ 1430 _ _ _ _ _
  refine e_step (pc' := 1432) hK rfl rfl rfl ?_
  try simp only [List.set_cons_zero, List.set_cons_succ]
  refine e_step (pc' := 1433) hK rfl rfl rfl ?_
  refine e_step (pc' := 1434) hK rfl rfl rfl ?_
  refine e_step (pc' := 1436) hK rfl rfl rfl ?_
  refine e_step (pc' := 1437) hK rfl rfl rfl ?_
  refine e_step (pc' := 1438) hK rfl rfl rfl ?_
  refine e_sil (pc' := 1439) hK rfl (by first | omega | assumption | exact hs _) (by first | omega | assumption | exact hs _) rfl ?_
  refine e_cQV2 (z := 183) hK rfl rfl (by first | (simp only [mH_t64, p1, p2]; rfl) | (show _ = 2; assumption) | (show _ = 1; assumption) | (show _ = 0; assumption) | (show _ = 3; assumption) | (show _ = 4; assumption) | exact rfl) rfl (Nat.le_of_ble_eq_true rfl) (Nat.le_of_ble_eq_true rfl) (g_save hM (sc.2 (i + 1)) (hs _)) ?_
  rintro _ _ _ ⟨rfl, rfl, w, rfl, hM2, hw⟩
  refine ⟨by show (0 : Nat) ≠ 4; decide, ?_⟩
  rw [if_neg (by show ¬ (0 : Nat) = 3; decide)]
  have e76 : mH g1 w 276 = g1 276 := m76
  show mv_Ev _ _ 1442 _ _ _ _ _
  refine e_step (pc' := 1444) hK rfl rfl rfl ?_
  try simp only [List.set_cons_zero, List.set_cons_succ]
  refine e_step (pc' := 1445) hK rfl rfl rfl ?_
  refine e_cRV1 (z := 107) (pc' := 1448) hK rfl rfl (by first | (simp only [mH_t64, p1, p2, e76]; rfl) | (show _ = 2; assumption) | (show _ = 1; assumption) | (show _ = 0; assumption) | (show _ = 3; assumption) | (show _ = 4; assumption) | exact rfl) rfl (Nat.le_of_ble_eq_true rfl) (Nat.le_of_ble_eq_true rfl) (g_thrown _ hw) (by decide) rfl ?_
  try simp only [mH_t64, p1, p2, e76]
  refine e_step (pc' := 1450) hK rfl rfl rfl ?_
  refine e_icmp (t := 1455) (pc' := 1453) hK rfl (by first | omega | assumption | exact hs _) (by first | omega | assumption | exact hs _) (by decide) rfl (fun hb1450 => ?_) (fun hb1450 => ?_)
  · replace hb1450 := cq_eq.1.mp hb1450
    refine e_step (pc' := 1457) hK rfl rfl rfl ?_
    refine e_if (t := 1472) (pc' := 1460) hK rfl (by first | omega | assumption | exact hs _) (by decide) rfl (fun hb1457 => ?_) (fun hb1457 => ?_)
    · replace hb1457 := cq_ne.1.mp hb1457
      refine e_goto (t := 1531) hK rfl (by decide) ?_
      exact K _ w g1 _ _ _ ⟨hl.mv, hM2, p1, p2⟩ hg
    · replace hb1457 := cq_ne.2.mp hb1457
      have ev : (g1 276).2.2 0 = (sp_save W (sc.2 (i + 1))).2.1 := hv (by omega)
      refine e_step (pc' := 1461) hK rfl rfl rfl ?_
      refine e_step (pc' := 1462) hK rfl rfl rfl ?_
      refine e_lald (pc' := 1463) hK rfl (by simp only [mH_t64, p1, p2, e76, ev]) (by first | omega | assumption | exact hs _) (by (try simp only [mH_t64, p1, p2, e76, ev]); first | omega | assumption | exact hs _) rfl ?_
      try simp only [mH_t64, p1, p2, e76, ev]
      refine e_step (pc' := 1465) hK rfl rfl rfl ?_
      refine e_i2l (pc' := 1466) hK rfl (by first | omega | assumption | exact hs _) rfl ?_
      refine e_lcmp (pc' := 1467) hK rfl (by first | omega | assumption | exact hs _) (by first | omega | assumption | exact hs _) rfl ?_
      rw [cL_s]
      refine e_if (t := 1472) (pc' := 1470) hK rfl (by first | omega | assumption | exact hs _) (by decide) rfl (fun hb1467 => ?_) (fun hb1467 => ?_)
      · replace hb1467 := cq_eq.1.mp hb1467
        refine e_goto (t := 1531) hK rfl (by decide) ?_
        exact K _ w g1 _ _ _ ⟨hl.mv, hM2, p1, p2⟩ hg
      · replace hb1467 := cq_eq.2.mp hb1467
        exfalso; first | omega | exact absurd trivial (by assumption) | (first | omega | assumption | exact hs _)
  · replace hb1450 := cq_eq.2.mp hb1450
    exfalso; first | omega | exact absurd trivial (by assumption) | (first | omega | assumption | exact hs _)
set_option maxRecDepth 10000 in
theorem r_restore {Q : mv_R → mv_C → mv_H → Prop} {W : wt} {v : mvt} {m o s_ : Nat} (hI : LI W v m h) (hs : ∀ j : Int, mv_i (sc.2 j)) (i : Int) (hi : 0 ≤ i) (hn : i + 4 ≤ sc.1) (a5 a6 : mv_V) (K : ∀ (W1 : wt) (v1 : mvt) (g1 : mv_H) (c1 : mv_C) (b5 b6 : mv_V), LI W1 v1 c1.1 g1 → cgr (m, o, s_) c1 → mv_Ev sc 205 1531 [(4, 0), (2, 0), (2, 264), (2, 276), (0, i), b5, b6] [] c1 (mH g1 v1) Q) : mv_Ev sc 205 1475 [(4, 0), (2, 0), (2, 264), (2, 276), (0, i), a5, a6] [] (m, o, s_) (mH h v) Q := by
  obtain ⟨hL, hM, q1, q2⟩ := hI
  have o1 : (mH h v 276).1 = 13 := by { rw [m76]; exact q1 }
  have o2 : (mH h v 276).2.1 = 1 := by { rw [m76]; exact q2 }
  have a0 : (mH h v 0).1 = 0 := hL.1.1.1
  have hK : (mv_m 205).1 = kc_Law_law := rfl
  refine e_step (pc' := 1476) hK rfl rfl rfl ?_
  refine e_step (pc' := 1477) hK rfl rfl rfl ?_
  refine e_step (pc' := 1479) hK rfl rfl rfl ?_
  refine e_step (pc' := 1480) hK rfl rfl rfl ?_
  refine e_step (pc' := 1481) hK rfl rfl rfl ?_
  refine e_sil (pc' := 1482) hK rfl (by first | omega | assumption | exact hs _) (by first | omega | assumption | exact hs _) rfl ?_
  refine e_step (pc' := 1483) hK rfl rfl rfl ?_
  refine e_cQS3 (z := 204) hK rfl rfl rfl (Nat.le_of_ble_eq_true rfl) (Nat.le_of_ble_eq_true rfl) (w_restore hL o1 o2 (sc.2 (i + 1)) (hs _)) ?_
  rintro _ c1 h1 ⟨rfl, hg, hl, hf, hx, p1, p2, hv⟩
  refine ⟨by show (0 : Nat) ≠ 4; decide, ?_⟩
  rw [if_neg (by show ¬ (0 : Nat) = 3; decide)]
  obtain ⟨g1, rfl⟩ : ∃ g : mv_H, h1 = mH g v := ⟨h1, mH_of hf⟩
  rw [m76] at p1 p2 hv
  have hk := kk_restore W (sc.2 (i + 1))
  show mv_Ev _ _ 1486 _ _ _ _ _
  refine e_step (pc' := 1488) hK rfl rfl rfl ?_
  try simp only [List.set_cons_zero, List.set_cons_succ]
  refine e_step (pc' := 1489) hK rfl rfl rfl ?_
  refine e_step (pc' := 1490) hK rfl rfl rfl ?_
  refine e_step (pc' := 1492) hK rfl rfl rfl ?_
  refine e_step (pc' := 1493) hK rfl rfl rfl ?_
  refine e_step (pc' := 1494) hK rfl rfl rfl ?_
  refine e_sil (pc' := 1495) hK rfl (by first | omega | assumption | exact hs _) (by first | omega | assumption | exact hs _) rfl ?_
  refine e_cQV2 (z := 184) hK rfl rfl (by first | (simp only [mH_t64, p1, p2]; rfl) | (show _ = 2; assumption) | (show _ = 1; assumption) | (show _ = 0; assumption) | (show _ = 3; assumption) | (show _ = 4; assumption) | exact rfl) rfl (Nat.le_of_ble_eq_true rfl) (Nat.le_of_ble_eq_true rfl) (g_restore hM (sc.2 (i + 1)) (hs _)) ?_
  rintro _ _ _ ⟨rfl, rfl, w, rfl, hM2, hw⟩
  refine ⟨by show (0 : Nat) ≠ 4; decide, ?_⟩
  rw [if_neg (by show ¬ (0 : Nat) = 3; decide)]
  have e76 : mH g1 w 276 = g1 276 := m76
  show mv_Ev _ _ 1498 _ _ _ _ _
  refine e_step (pc' := 1500) hK rfl rfl rfl ?_
  try simp only [List.set_cons_zero, List.set_cons_succ]
  refine e_step (pc' := 1501) hK rfl rfl rfl ?_
  refine e_cRV1 (z := 107) (pc' := 1504) hK rfl rfl (by first | (simp only [mH_t64, p1, p2, e76]; rfl) | (show _ = 2; assumption) | (show _ = 1; assumption) | (show _ = 0; assumption) | (show _ = 3; assumption) | (show _ = 4; assumption) | exact rfl) rfl (Nat.le_of_ble_eq_true rfl) (Nat.le_of_ble_eq_true rfl) (g_thrown _ hw) (by decide) rfl ?_
  try simp only [mH_t64, p1, p2, e76]
  refine e_step (pc' := 1506) hK rfl rfl rfl ?_
  refine e_icmp (t := 1511) (pc' := 1509) hK rfl (by first | omega | assumption | exact hs _) (by first | omega | assumption | exact hs _) (by decide) rfl (fun hb1506 => ?_) (fun hb1506 => ?_)
  · replace hb1506 := cq_eq.1.mp hb1506
    refine e_step (pc' := 1513) hK rfl rfl rfl ?_
    refine e_if (t := 1528) (pc' := 1516) hK rfl (by first | omega | assumption | exact hs _) (by decide) rfl (fun hb1513 => ?_) (fun hb1513 => ?_)
    · replace hb1513 := cq_ne.1.mp hb1513
      refine e_goto (t := 1531) hK rfl (by decide) ?_
      exact K _ w g1 _ _ _ ⟨hl.mv, hM2, p1, p2⟩ hg
    · replace hb1513 := cq_ne.2.mp hb1513
      have ev : (g1 276).2.2 0 = (sp_restore W (sc.2 (i + 1))).2.1 := hv (by omega)
      refine e_step (pc' := 1517) hK rfl rfl rfl ?_
      refine e_step (pc' := 1518) hK rfl rfl rfl ?_
      refine e_lald (pc' := 1519) hK rfl (by simp only [mH_t64, p1, p2, e76, ev]) (by first | omega | assumption | exact hs _) (by (try simp only [mH_t64, p1, p2, e76, ev]); first | omega | assumption | exact hs _) rfl ?_
      try simp only [mH_t64, p1, p2, e76, ev]
      refine e_step (pc' := 1521) hK rfl rfl rfl ?_
      refine e_i2l (pc' := 1522) hK rfl (by first | omega | assumption | exact hs _) rfl ?_
      refine e_lcmp (pc' := 1523) hK rfl (by first | omega | assumption | exact hs _) (by first | omega | assumption | exact hs _) rfl ?_
      rw [cL_s]
      refine e_if (t := 1528) (pc' := 1526) hK rfl (by first | omega | assumption | exact hs _) (by decide) rfl (fun hb1523 => ?_) (fun hb1523 => ?_)
      · replace hb1523 := cq_eq.1.mp hb1523
        refine e_goto (t := 1531) hK rfl (by decide) ?_
        exact K _ w g1 _ _ _ ⟨hl.mv, hM2, p1, p2⟩ hg
      · replace hb1523 := cq_eq.2.mp hb1523
        exfalso; first | omega | exact absurd trivial (by assumption) | (first | omega | assumption | exact hs _)
  · replace hb1506 := cq_eq.2.mp hb1506
    exfalso; first | omega | exact absurd trivial (by assumption) | (first | omega | assumption | exact hs _)
end GO
