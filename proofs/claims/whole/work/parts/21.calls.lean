/-! calls by their number of values; contracts of readers -/
def mv_Rd (v : mv_R) (c : mv_C) (h : mv_H) : mv_R → mv_C → mv_H → Prop := fun r c' h' => r = v ∧ c' = c ∧ h' = h
section CAL
variable {sc : Int × (Int → Int)} {y pc pc' z x : Nat} {K : mv_K} {i : Instr} {a : Int} {ls r : List mv_V} {c : mv_C} {h : mv_H} {Q Q1 : mv_R → mv_C → mv_H → Prop}
theorem e_cQS0 (hK : (mv_m y).1 = K) (hg : mv_get K pc = some (.invokestatic x, a)) (hz : mv_z a = z) (hn : (mv_m z).2.1 = 0) (hml : (mv_ents []).length ≤ (mv_m z).2.2.1) (hr : r.length ≤ 4) (hC : mv_Cl sc z [] c h Q1) (hQ : ∀ (v : mv_R) (c1 : mv_C) (h1 : mv_H), Q1 v c1 h1 → v.1 ≠ 4 ∧ mv_Ev sc y (pc + 3) ls (if v.1 = 3 then r else v :: r) c1 h1 Q) : mv_Ev sc y pc ls (r) c h Q :=
  e_call (vs := []) hK hg rfl hz rfl hn hr rfl hml hC hQ
theorem e_cRS0 {t : Nat} {v : Int} (hK : (mv_m y).1 = K) (hg : mv_get K pc = some (.invokestatic x, a)) (hz : mv_z a = z) (hn : (mv_m z).2.1 = 0) (hml : (mv_ents []).length ≤ (mv_m z).2.2.1) (hr : r.length ≤ 4) (hC : mv_Cl sc z [] c h (mv_Rd (t, v) c h)) (ht : t < 3) (hp : pc + 3 = pc') (k : mv_Ev sc y pc' ls ((t, v) :: r) c h Q) : mv_Ev sc y pc ls (r) c h Q := by
  subst hp
  refine e_cQS0 hK hg hz hn hml hr hC (fun v1 c1 h1 hq => ?_)
  obtain ⟨rfl, rfl, rfl⟩ := hq
  refine ⟨by show t ≠ 4; omega, ?_⟩
  rw [if_neg (by show ¬ t = 3; omega)]
  exact k
theorem e_cQV1 {b : Int} (hK : (mv_m y).1 = K) (hg : mv_get K pc = some (.invokevirtual x, a)) (hz : mv_z a = z) (hrc : (h b).1 = (mv_m z).2.2.2.2.1) (hn : (mv_m z).2.1 = 1) (hml : (mv_ents [(2, b)]).length ≤ (mv_m z).2.2.1) (hr : r.length ≤ 4) (hC : mv_Cl sc z [(2, b)] c h Q1) (hQ : ∀ (v : mv_R) (c1 : mv_C) (h1 : mv_H), Q1 v c1 h1 → v.1 ≠ 4 ∧ mv_Ev sc y (pc + 3) ls (if v.1 = 3 then r else v :: r) c1 h1 Q) : mv_Ev sc y pc ls ((2, b) :: r) c h Q :=
  e_call (vs := [(2, b)]) hK hg rfl hz rfl hn hr (decide_eq_true hrc) hml hC hQ
theorem e_cRV1 {b : Int} {t : Nat} {v : Int} (hK : (mv_m y).1 = K) (hg : mv_get K pc = some (.invokevirtual x, a)) (hz : mv_z a = z) (hrc : (h b).1 = (mv_m z).2.2.2.2.1) (hn : (mv_m z).2.1 = 1) (hml : (mv_ents [(2, b)]).length ≤ (mv_m z).2.2.1) (hr : r.length ≤ 4) (hC : mv_Cl sc z [(2, b)] c h (mv_Rd (t, v) c h)) (ht : t < 3) (hp : pc + 3 = pc') (k : mv_Ev sc y pc' ls ((t, v) :: r) c h Q) : mv_Ev sc y pc ls ((2, b) :: r) c h Q := by
  subst hp
  refine e_cQV1 hK hg hz hrc hn hml hr hC (fun v1 c1 h1 hq => ?_)
  obtain ⟨rfl, rfl, rfl⟩ := hq
  refine ⟨by show t ≠ 4; omega, ?_⟩
  rw [if_neg (by show ¬ t = 3; omega)]
  exact k
theorem e_cQS1 {v0 : mv_V} (hK : (mv_m y).1 = K) (hg : mv_get K pc = some (.invokestatic x, a)) (hz : mv_z a = z) (hn : (mv_m z).2.1 = 1) (hml : (mv_ents [v0]).length ≤ (mv_m z).2.2.1) (hr : r.length ≤ 4) (hC : mv_Cl sc z [v0] c h Q1) (hQ : ∀ (v : mv_R) (c1 : mv_C) (h1 : mv_H), Q1 v c1 h1 → v.1 ≠ 4 ∧ mv_Ev sc y (pc + 3) ls (if v.1 = 3 then r else v :: r) c1 h1 Q) : mv_Ev sc y pc ls (v0 :: r) c h Q :=
  e_call (vs := [v0]) hK hg rfl hz rfl hn hr rfl hml hC hQ
theorem e_cRS1 {v0 : mv_V} {t : Nat} {v : Int} (hK : (mv_m y).1 = K) (hg : mv_get K pc = some (.invokestatic x, a)) (hz : mv_z a = z) (hn : (mv_m z).2.1 = 1) (hml : (mv_ents [v0]).length ≤ (mv_m z).2.2.1) (hr : r.length ≤ 4) (hC : mv_Cl sc z [v0] c h (mv_Rd (t, v) c h)) (ht : t < 3) (hp : pc + 3 = pc') (k : mv_Ev sc y pc' ls ((t, v) :: r) c h Q) : mv_Ev sc y pc ls (v0 :: r) c h Q := by
  subst hp
  refine e_cQS1 hK hg hz hn hml hr hC (fun v1 c1 h1 hq => ?_)
  obtain ⟨rfl, rfl, rfl⟩ := hq
  refine ⟨by show t ≠ 4; omega, ?_⟩
  rw [if_neg (by show ¬ t = 3; omega)]
  exact k
theorem e_cQI1 {b : Int} (hK : (mv_m y).1 = K) (hg : mv_get K pc = some (.invokespecial x, a)) (hz : mv_z a = z) (hn : (mv_m z).2.1 = 1) (hml : (mv_ents [(2, b)]).length ≤ (mv_m z).2.2.1) (hr : r.length ≤ 4) (hC : mv_Cl sc z [(2, b)] c h Q1) (hQ : ∀ (v : mv_R) (c1 : mv_C) (h1 : mv_H), Q1 v c1 h1 → v.1 ≠ 4 ∧ mv_Ev sc y (pc + 3) ls (if v.1 = 3 then r else v :: r) c1 h1 Q) : mv_Ev sc y pc ls ((2, b) :: r) c h Q :=
  e_call (vs := [(2, b)]) hK hg rfl hz rfl hn hr rfl hml hC hQ
theorem e_cRI1 {b : Int} {t : Nat} {v : Int} (hK : (mv_m y).1 = K) (hg : mv_get K pc = some (.invokespecial x, a)) (hz : mv_z a = z) (hn : (mv_m z).2.1 = 1) (hml : (mv_ents [(2, b)]).length ≤ (mv_m z).2.2.1) (hr : r.length ≤ 4) (hC : mv_Cl sc z [(2, b)] c h (mv_Rd (t, v) c h)) (ht : t < 3) (hp : pc + 3 = pc') (k : mv_Ev sc y pc' ls ((t, v) :: r) c h Q) : mv_Ev sc y pc ls ((2, b) :: r) c h Q := by
  subst hp
  refine e_cQI1 hK hg hz hn hml hr hC (fun v1 c1 h1 hq => ?_)
  obtain ⟨rfl, rfl, rfl⟩ := hq
  refine ⟨by show t ≠ 4; omega, ?_⟩
  rw [if_neg (by show ¬ t = 3; omega)]
  exact k
theorem e_cQV2 {v1 : mv_V} {b : Int} (hK : (mv_m y).1 = K) (hg : mv_get K pc = some (.invokevirtual x, a)) (hz : mv_z a = z) (hrc : (h b).1 = (mv_m z).2.2.2.2.1) (hn : (mv_m z).2.1 = 2) (hml : (mv_ents [(2, b), v1]).length ≤ (mv_m z).2.2.1) (hr : r.length ≤ 4) (hC : mv_Cl sc z [(2, b), v1] c h Q1) (hQ : ∀ (v : mv_R) (c1 : mv_C) (h1 : mv_H), Q1 v c1 h1 → v.1 ≠ 4 ∧ mv_Ev sc y (pc + 3) ls (if v.1 = 3 then r else v :: r) c1 h1 Q) : mv_Ev sc y pc ls (v1 :: (2, b) :: r) c h Q :=
  e_call (vs := [(2, b), v1]) hK hg rfl hz rfl hn hr (decide_eq_true hrc) hml hC hQ
theorem e_cRV2 {v1 : mv_V} {b : Int} {t : Nat} {v : Int} (hK : (mv_m y).1 = K) (hg : mv_get K pc = some (.invokevirtual x, a)) (hz : mv_z a = z) (hrc : (h b).1 = (mv_m z).2.2.2.2.1) (hn : (mv_m z).2.1 = 2) (hml : (mv_ents [(2, b), v1]).length ≤ (mv_m z).2.2.1) (hr : r.length ≤ 4) (hC : mv_Cl sc z [(2, b), v1] c h (mv_Rd (t, v) c h)) (ht : t < 3) (hp : pc + 3 = pc') (k : mv_Ev sc y pc' ls ((t, v) :: r) c h Q) : mv_Ev sc y pc ls (v1 :: (2, b) :: r) c h Q := by
  subst hp
  refine e_cQV2 hK hg hz hrc hn hml hr hC (fun v1 c1 h1 hq => ?_)
  obtain ⟨rfl, rfl, rfl⟩ := hq
  refine ⟨by show t ≠ 4; omega, ?_⟩
  rw [if_neg (by show ¬ t = 3; omega)]
  exact k
theorem e_cQS2 {v0 v1 : mv_V} (hK : (mv_m y).1 = K) (hg : mv_get K pc = some (.invokestatic x, a)) (hz : mv_z a = z) (hn : (mv_m z).2.1 = 2) (hml : (mv_ents [v0, v1]).length ≤ (mv_m z).2.2.1) (hr : r.length ≤ 4) (hC : mv_Cl sc z [v0, v1] c h Q1) (hQ : ∀ (v : mv_R) (c1 : mv_C) (h1 : mv_H), Q1 v c1 h1 → v.1 ≠ 4 ∧ mv_Ev sc y (pc + 3) ls (if v.1 = 3 then r else v :: r) c1 h1 Q) : mv_Ev sc y pc ls (v1 :: v0 :: r) c h Q :=
  e_call (vs := [v0, v1]) hK hg rfl hz rfl hn hr rfl hml hC hQ
theorem e_cRS2 {v0 v1 : mv_V} {t : Nat} {v : Int} (hK : (mv_m y).1 = K) (hg : mv_get K pc = some (.invokestatic x, a)) (hz : mv_z a = z) (hn : (mv_m z).2.1 = 2) (hml : (mv_ents [v0, v1]).length ≤ (mv_m z).2.2.1) (hr : r.length ≤ 4) (hC : mv_Cl sc z [v0, v1] c h (mv_Rd (t, v) c h)) (ht : t < 3) (hp : pc + 3 = pc') (k : mv_Ev sc y pc' ls ((t, v) :: r) c h Q) : mv_Ev sc y pc ls (v1 :: v0 :: r) c h Q := by
  subst hp
  refine e_cQS2 hK hg hz hn hml hr hC (fun v1 c1 h1 hq => ?_)
  obtain ⟨rfl, rfl, rfl⟩ := hq
  refine ⟨by show t ≠ 4; omega, ?_⟩
  rw [if_neg (by show ¬ t = 3; omega)]
  exact k
theorem e_cQI2 {v1 : mv_V} {b : Int} (hK : (mv_m y).1 = K) (hg : mv_get K pc = some (.invokespecial x, a)) (hz : mv_z a = z) (hn : (mv_m z).2.1 = 2) (hml : (mv_ents [(2, b), v1]).length ≤ (mv_m z).2.2.1) (hr : r.length ≤ 4) (hC : mv_Cl sc z [(2, b), v1] c h Q1) (hQ : ∀ (v : mv_R) (c1 : mv_C) (h1 : mv_H), Q1 v c1 h1 → v.1 ≠ 4 ∧ mv_Ev sc y (pc + 3) ls (if v.1 = 3 then r else v :: r) c1 h1 Q) : mv_Ev sc y pc ls (v1 :: (2, b) :: r) c h Q :=
  e_call (vs := [(2, b), v1]) hK hg rfl hz rfl hn hr rfl hml hC hQ
theorem e_cRI2 {v1 : mv_V} {b : Int} {t : Nat} {v : Int} (hK : (mv_m y).1 = K) (hg : mv_get K pc = some (.invokespecial x, a)) (hz : mv_z a = z) (hn : (mv_m z).2.1 = 2) (hml : (mv_ents [(2, b), v1]).length ≤ (mv_m z).2.2.1) (hr : r.length ≤ 4) (hC : mv_Cl sc z [(2, b), v1] c h (mv_Rd (t, v) c h)) (ht : t < 3) (hp : pc + 3 = pc') (k : mv_Ev sc y pc' ls ((t, v) :: r) c h Q) : mv_Ev sc y pc ls (v1 :: (2, b) :: r) c h Q := by
  subst hp
  refine e_cQI2 hK hg hz hn hml hr hC (fun v1 c1 h1 hq => ?_)
  obtain ⟨rfl, rfl, rfl⟩ := hq
  refine ⟨by show t ≠ 4; omega, ?_⟩
  rw [if_neg (by show ¬ t = 3; omega)]
  exact k
theorem e_cQV3 {v1 v2 : mv_V} {b : Int} (hK : (mv_m y).1 = K) (hg : mv_get K pc = some (.invokevirtual x, a)) (hz : mv_z a = z) (hrc : (h b).1 = (mv_m z).2.2.2.2.1) (hn : (mv_m z).2.1 = 3) (hml : (mv_ents [(2, b), v1, v2]).length ≤ (mv_m z).2.2.1) (hr : r.length ≤ 4) (hC : mv_Cl sc z [(2, b), v1, v2] c h Q1) (hQ : ∀ (v : mv_R) (c1 : mv_C) (h1 : mv_H), Q1 v c1 h1 → v.1 ≠ 4 ∧ mv_Ev sc y (pc + 3) ls (if v.1 = 3 then r else v :: r) c1 h1 Q) : mv_Ev sc y pc ls (v2 :: v1 :: (2, b) :: r) c h Q :=
  e_call (vs := [(2, b), v1, v2]) hK hg rfl hz rfl hn hr (decide_eq_true hrc) hml hC hQ
theorem e_cRV3 {v1 v2 : mv_V} {b : Int} {t : Nat} {v : Int} (hK : (mv_m y).1 = K) (hg : mv_get K pc = some (.invokevirtual x, a)) (hz : mv_z a = z) (hrc : (h b).1 = (mv_m z).2.2.2.2.1) (hn : (mv_m z).2.1 = 3) (hml : (mv_ents [(2, b), v1, v2]).length ≤ (mv_m z).2.2.1) (hr : r.length ≤ 4) (hC : mv_Cl sc z [(2, b), v1, v2] c h (mv_Rd (t, v) c h)) (ht : t < 3) (hp : pc + 3 = pc') (k : mv_Ev sc y pc' ls ((t, v) :: r) c h Q) : mv_Ev sc y pc ls (v2 :: v1 :: (2, b) :: r) c h Q := by
  subst hp
  refine e_cQV3 hK hg hz hrc hn hml hr hC (fun v1 c1 h1 hq => ?_)
  obtain ⟨rfl, rfl, rfl⟩ := hq
  refine ⟨by show t ≠ 4; omega, ?_⟩
  rw [if_neg (by show ¬ t = 3; omega)]
  exact k
theorem e_cQS3 {v0 v1 v2 : mv_V} (hK : (mv_m y).1 = K) (hg : mv_get K pc = some (.invokestatic x, a)) (hz : mv_z a = z) (hn : (mv_m z).2.1 = 3) (hml : (mv_ents [v0, v1, v2]).length ≤ (mv_m z).2.2.1) (hr : r.length ≤ 4) (hC : mv_Cl sc z [v0, v1, v2] c h Q1) (hQ : ∀ (v : mv_R) (c1 : mv_C) (h1 : mv_H), Q1 v c1 h1 → v.1 ≠ 4 ∧ mv_Ev sc y (pc + 3) ls (if v.1 = 3 then r else v :: r) c1 h1 Q) : mv_Ev sc y pc ls (v2 :: v1 :: v0 :: r) c h Q :=
  e_call (vs := [v0, v1, v2]) hK hg rfl hz rfl hn hr rfl hml hC hQ
theorem e_cRS3 {v0 v1 v2 : mv_V} {t : Nat} {v : Int} (hK : (mv_m y).1 = K) (hg : mv_get K pc = some (.invokestatic x, a)) (hz : mv_z a = z) (hn : (mv_m z).2.1 = 3) (hml : (mv_ents [v0, v1, v2]).length ≤ (mv_m z).2.2.1) (hr : r.length ≤ 4) (hC : mv_Cl sc z [v0, v1, v2] c h (mv_Rd (t, v) c h)) (ht : t < 3) (hp : pc + 3 = pc') (k : mv_Ev sc y pc' ls ((t, v) :: r) c h Q) : mv_Ev sc y pc ls (v2 :: v1 :: v0 :: r) c h Q := by
  subst hp
  refine e_cQS3 hK hg hz hn hml hr hC (fun v1 c1 h1 hq => ?_)
  obtain ⟨rfl, rfl, rfl⟩ := hq
  refine ⟨by show t ≠ 4; omega, ?_⟩
  rw [if_neg (by show ¬ t = 3; omega)]
  exact k
theorem e_cQI3 {v1 v2 : mv_V} {b : Int} (hK : (mv_m y).1 = K) (hg : mv_get K pc = some (.invokespecial x, a)) (hz : mv_z a = z) (hn : (mv_m z).2.1 = 3) (hml : (mv_ents [(2, b), v1, v2]).length ≤ (mv_m z).2.2.1) (hr : r.length ≤ 4) (hC : mv_Cl sc z [(2, b), v1, v2] c h Q1) (hQ : ∀ (v : mv_R) (c1 : mv_C) (h1 : mv_H), Q1 v c1 h1 → v.1 ≠ 4 ∧ mv_Ev sc y (pc + 3) ls (if v.1 = 3 then r else v :: r) c1 h1 Q) : mv_Ev sc y pc ls (v2 :: v1 :: (2, b) :: r) c h Q :=
  e_call (vs := [(2, b), v1, v2]) hK hg rfl hz rfl hn hr rfl hml hC hQ
theorem e_cRI3 {v1 v2 : mv_V} {b : Int} {t : Nat} {v : Int} (hK : (mv_m y).1 = K) (hg : mv_get K pc = some (.invokespecial x, a)) (hz : mv_z a = z) (hn : (mv_m z).2.1 = 3) (hml : (mv_ents [(2, b), v1, v2]).length ≤ (mv_m z).2.2.1) (hr : r.length ≤ 4) (hC : mv_Cl sc z [(2, b), v1, v2] c h (mv_Rd (t, v) c h)) (ht : t < 3) (hp : pc + 3 = pc') (k : mv_Ev sc y pc' ls ((t, v) :: r) c h Q) : mv_Ev sc y pc ls (v2 :: v1 :: (2, b) :: r) c h Q := by
  subst hp
  refine e_cQI3 hK hg hz hn hml hr hC (fun v1 c1 h1 hq => ?_)
  obtain ⟨rfl, rfl, rfl⟩ := hq
  refine ⟨by show t ≠ 4; omega, ?_⟩
  rw [if_neg (by show ¬ t = 3; omega)]
  exact k
theorem e_cQV4 {v1 v2 v3 : mv_V} {b : Int} (hK : (mv_m y).1 = K) (hg : mv_get K pc = some (.invokevirtual x, a)) (hz : mv_z a = z) (hrc : (h b).1 = (mv_m z).2.2.2.2.1) (hn : (mv_m z).2.1 = 4) (hml : (mv_ents [(2, b), v1, v2, v3]).length ≤ (mv_m z).2.2.1) (hr : r.length ≤ 4) (hC : mv_Cl sc z [(2, b), v1, v2, v3] c h Q1) (hQ : ∀ (v : mv_R) (c1 : mv_C) (h1 : mv_H), Q1 v c1 h1 → v.1 ≠ 4 ∧ mv_Ev sc y (pc + 3) ls (if v.1 = 3 then r else v :: r) c1 h1 Q) : mv_Ev sc y pc ls (v3 :: v2 :: v1 :: (2, b) :: r) c h Q :=
  e_call (vs := [(2, b), v1, v2, v3]) hK hg rfl hz rfl hn hr (decide_eq_true hrc) hml hC hQ
theorem e_cRV4 {v1 v2 v3 : mv_V} {b : Int} {t : Nat} {v : Int} (hK : (mv_m y).1 = K) (hg : mv_get K pc = some (.invokevirtual x, a)) (hz : mv_z a = z) (hrc : (h b).1 = (mv_m z).2.2.2.2.1) (hn : (mv_m z).2.1 = 4) (hml : (mv_ents [(2, b), v1, v2, v3]).length ≤ (mv_m z).2.2.1) (hr : r.length ≤ 4) (hC : mv_Cl sc z [(2, b), v1, v2, v3] c h (mv_Rd (t, v) c h)) (ht : t < 3) (hp : pc + 3 = pc') (k : mv_Ev sc y pc' ls ((t, v) :: r) c h Q) : mv_Ev sc y pc ls (v3 :: v2 :: v1 :: (2, b) :: r) c h Q := by
  subst hp
  refine e_cQV4 hK hg hz hrc hn hml hr hC (fun v1 c1 h1 hq => ?_)
  obtain ⟨rfl, rfl, rfl⟩ := hq
  refine ⟨by show t ≠ 4; omega, ?_⟩
  rw [if_neg (by show ¬ t = 3; omega)]
  exact k
theorem e_cQS4 {v0 v1 v2 v3 : mv_V} (hK : (mv_m y).1 = K) (hg : mv_get K pc = some (.invokestatic x, a)) (hz : mv_z a = z) (hn : (mv_m z).2.1 = 4) (hml : (mv_ents [v0, v1, v2, v3]).length ≤ (mv_m z).2.2.1) (hr : r.length ≤ 4) (hC : mv_Cl sc z [v0, v1, v2, v3] c h Q1) (hQ : ∀ (v : mv_R) (c1 : mv_C) (h1 : mv_H), Q1 v c1 h1 → v.1 ≠ 4 ∧ mv_Ev sc y (pc + 3) ls (if v.1 = 3 then r else v :: r) c1 h1 Q) : mv_Ev sc y pc ls (v3 :: v2 :: v1 :: v0 :: r) c h Q :=
  e_call (vs := [v0, v1, v2, v3]) hK hg rfl hz rfl hn hr rfl hml hC hQ
theorem e_cRS4 {v0 v1 v2 v3 : mv_V} {t : Nat} {v : Int} (hK : (mv_m y).1 = K) (hg : mv_get K pc = some (.invokestatic x, a)) (hz : mv_z a = z) (hn : (mv_m z).2.1 = 4) (hml : (mv_ents [v0, v1, v2, v3]).length ≤ (mv_m z).2.2.1) (hr : r.length ≤ 4) (hC : mv_Cl sc z [v0, v1, v2, v3] c h (mv_Rd (t, v) c h)) (ht : t < 3) (hp : pc + 3 = pc') (k : mv_Ev sc y pc' ls ((t, v) :: r) c h Q) : mv_Ev sc y pc ls (v3 :: v2 :: v1 :: v0 :: r) c h Q := by
  subst hp
  refine e_cQS4 hK hg hz hn hml hr hC (fun v1 c1 h1 hq => ?_)
  obtain ⟨rfl, rfl, rfl⟩ := hq
  refine ⟨by show t ≠ 4; omega, ?_⟩
  rw [if_neg (by show ¬ t = 3; omega)]
  exact k
theorem e_cQI4 {v1 v2 v3 : mv_V} {b : Int} (hK : (mv_m y).1 = K) (hg : mv_get K pc = some (.invokespecial x, a)) (hz : mv_z a = z) (hn : (mv_m z).2.1 = 4) (hml : (mv_ents [(2, b), v1, v2, v3]).length ≤ (mv_m z).2.2.1) (hr : r.length ≤ 4) (hC : mv_Cl sc z [(2, b), v1, v2, v3] c h Q1) (hQ : ∀ (v : mv_R) (c1 : mv_C) (h1 : mv_H), Q1 v c1 h1 → v.1 ≠ 4 ∧ mv_Ev sc y (pc + 3) ls (if v.1 = 3 then r else v :: r) c1 h1 Q) : mv_Ev sc y pc ls (v3 :: v2 :: v1 :: (2, b) :: r) c h Q :=
  e_call (vs := [(2, b), v1, v2, v3]) hK hg rfl hz rfl hn hr rfl hml hC hQ
theorem e_cRI4 {v1 v2 v3 : mv_V} {b : Int} {t : Nat} {v : Int} (hK : (mv_m y).1 = K) (hg : mv_get K pc = some (.invokespecial x, a)) (hz : mv_z a = z) (hn : (mv_m z).2.1 = 4) (hml : (mv_ents [(2, b), v1, v2, v3]).length ≤ (mv_m z).2.2.1) (hr : r.length ≤ 4) (hC : mv_Cl sc z [(2, b), v1, v2, v3] c h (mv_Rd (t, v) c h)) (ht : t < 3) (hp : pc + 3 = pc') (k : mv_Ev sc y pc' ls ((t, v) :: r) c h Q) : mv_Ev sc y pc ls (v3 :: v2 :: v1 :: (2, b) :: r) c h Q := by
  subst hp
  refine e_cQI4 hK hg hz hn hml hr hC (fun v1 c1 h1 hq => ?_)
  obtain ⟨rfl, rfl, rfl⟩ := hq
  refine ⟨by show t ≠ 4; omega, ?_⟩
  rw [if_neg (by show ¬ t = 3; omega)]
  exact k
theorem e_cQV5 {v1 v2 v3 v4 : mv_V} {b : Int} (hK : (mv_m y).1 = K) (hg : mv_get K pc = some (.invokevirtual x, a)) (hz : mv_z a = z) (hrc : (h b).1 = (mv_m z).2.2.2.2.1) (hn : (mv_m z).2.1 = 5) (hml : (mv_ents [(2, b), v1, v2, v3, v4]).length ≤ (mv_m z).2.2.1) (hr : r.length ≤ 4) (hC : mv_Cl sc z [(2, b), v1, v2, v3, v4] c h Q1) (hQ : ∀ (v : mv_R) (c1 : mv_C) (h1 : mv_H), Q1 v c1 h1 → v.1 ≠ 4 ∧ mv_Ev sc y (pc + 3) ls (if v.1 = 3 then r else v :: r) c1 h1 Q) : mv_Ev sc y pc ls (v4 :: v3 :: v2 :: v1 :: (2, b) :: r) c h Q :=
  e_call (vs := [(2, b), v1, v2, v3, v4]) hK hg rfl hz rfl hn hr (decide_eq_true hrc) hml hC hQ
theorem e_cRV5 {v1 v2 v3 v4 : mv_V} {b : Int} {t : Nat} {v : Int} (hK : (mv_m y).1 = K) (hg : mv_get K pc = some (.invokevirtual x, a)) (hz : mv_z a = z) (hrc : (h b).1 = (mv_m z).2.2.2.2.1) (hn : (mv_m z).2.1 = 5) (hml : (mv_ents [(2, b), v1, v2, v3, v4]).length ≤ (mv_m z).2.2.1) (hr : r.length ≤ 4) (hC : mv_Cl sc z [(2, b), v1, v2, v3, v4] c h (mv_Rd (t, v) c h)) (ht : t < 3) (hp : pc + 3 = pc') (k : mv_Ev sc y pc' ls ((t, v) :: r) c h Q) : mv_Ev sc y pc ls (v4 :: v3 :: v2 :: v1 :: (2, b) :: r) c h Q := by
  subst hp
  refine e_cQV5 hK hg hz hrc hn hml hr hC (fun v1 c1 h1 hq => ?_)
  obtain ⟨rfl, rfl, rfl⟩ := hq
  refine ⟨by show t ≠ 4; omega, ?_⟩
  rw [if_neg (by show ¬ t = 3; omega)]
  exact k
theorem e_cQS5 {v0 v1 v2 v3 v4 : mv_V} (hK : (mv_m y).1 = K) (hg : mv_get K pc = some (.invokestatic x, a)) (hz : mv_z a = z) (hn : (mv_m z).2.1 = 5) (hml : (mv_ents [v0, v1, v2, v3, v4]).length ≤ (mv_m z).2.2.1) (hr : r.length ≤ 4) (hC : mv_Cl sc z [v0, v1, v2, v3, v4] c h Q1) (hQ : ∀ (v : mv_R) (c1 : mv_C) (h1 : mv_H), Q1 v c1 h1 → v.1 ≠ 4 ∧ mv_Ev sc y (pc + 3) ls (if v.1 = 3 then r else v :: r) c1 h1 Q) : mv_Ev sc y pc ls (v4 :: v3 :: v2 :: v1 :: v0 :: r) c h Q :=
  e_call (vs := [v0, v1, v2, v3, v4]) hK hg rfl hz rfl hn hr rfl hml hC hQ
theorem e_cRS5 {v0 v1 v2 v3 v4 : mv_V} {t : Nat} {v : Int} (hK : (mv_m y).1 = K) (hg : mv_get K pc = some (.invokestatic x, a)) (hz : mv_z a = z) (hn : (mv_m z).2.1 = 5) (hml : (mv_ents [v0, v1, v2, v3, v4]).length ≤ (mv_m z).2.2.1) (hr : r.length ≤ 4) (hC : mv_Cl sc z [v0, v1, v2, v3, v4] c h (mv_Rd (t, v) c h)) (ht : t < 3) (hp : pc + 3 = pc') (k : mv_Ev sc y pc' ls ((t, v) :: r) c h Q) : mv_Ev sc y pc ls (v4 :: v3 :: v2 :: v1 :: v0 :: r) c h Q := by
  subst hp
  refine e_cQS5 hK hg hz hn hml hr hC (fun v1 c1 h1 hq => ?_)
  obtain ⟨rfl, rfl, rfl⟩ := hq
  refine ⟨by show t ≠ 4; omega, ?_⟩
  rw [if_neg (by show ¬ t = 3; omega)]
  exact k
theorem e_cQI5 {v1 v2 v3 v4 : mv_V} {b : Int} (hK : (mv_m y).1 = K) (hg : mv_get K pc = some (.invokespecial x, a)) (hz : mv_z a = z) (hn : (mv_m z).2.1 = 5) (hml : (mv_ents [(2, b), v1, v2, v3, v4]).length ≤ (mv_m z).2.2.1) (hr : r.length ≤ 4) (hC : mv_Cl sc z [(2, b), v1, v2, v3, v4] c h Q1) (hQ : ∀ (v : mv_R) (c1 : mv_C) (h1 : mv_H), Q1 v c1 h1 → v.1 ≠ 4 ∧ mv_Ev sc y (pc + 3) ls (if v.1 = 3 then r else v :: r) c1 h1 Q) : mv_Ev sc y pc ls (v4 :: v3 :: v2 :: v1 :: (2, b) :: r) c h Q :=
  e_call (vs := [(2, b), v1, v2, v3, v4]) hK hg rfl hz rfl hn hr rfl hml hC hQ
theorem e_cRI5 {v1 v2 v3 v4 : mv_V} {b : Int} {t : Nat} {v : Int} (hK : (mv_m y).1 = K) (hg : mv_get K pc = some (.invokespecial x, a)) (hz : mv_z a = z) (hn : (mv_m z).2.1 = 5) (hml : (mv_ents [(2, b), v1, v2, v3, v4]).length ≤ (mv_m z).2.2.1) (hr : r.length ≤ 4) (hC : mv_Cl sc z [(2, b), v1, v2, v3, v4] c h (mv_Rd (t, v) c h)) (ht : t < 3) (hp : pc + 3 = pc') (k : mv_Ev sc y pc' ls ((t, v) :: r) c h Q) : mv_Ev sc y pc ls (v4 :: v3 :: v2 :: v1 :: (2, b) :: r) c h Q := by
  subst hp
  refine e_cQI5 hK hg hz hn hml hr hC (fun v1 c1 h1 hq => ?_)
  obtain ⟨rfl, rfl, rfl⟩ := hq
  refine ⟨by show t ≠ 4; omega, ?_⟩
  rw [if_neg (by show ¬ t = 3; omega)]
  exact k
theorem e_cQV6 {v1 v2 v3 v4 v5 : mv_V} {b : Int} (hK : (mv_m y).1 = K) (hg : mv_get K pc = some (.invokevirtual x, a)) (hz : mv_z a = z) (hrc : (h b).1 = (mv_m z).2.2.2.2.1) (hn : (mv_m z).2.1 = 6) (hml : (mv_ents [(2, b), v1, v2, v3, v4, v5]).length ≤ (mv_m z).2.2.1) (hr : r.length ≤ 4) (hC : mv_Cl sc z [(2, b), v1, v2, v3, v4, v5] c h Q1) (hQ : ∀ (v : mv_R) (c1 : mv_C) (h1 : mv_H), Q1 v c1 h1 → v.1 ≠ 4 ∧ mv_Ev sc y (pc + 3) ls (if v.1 = 3 then r else v :: r) c1 h1 Q) : mv_Ev sc y pc ls (v5 :: v4 :: v3 :: v2 :: v1 :: (2, b) :: r) c h Q :=
  e_call (vs := [(2, b), v1, v2, v3, v4, v5]) hK hg rfl hz rfl hn hr (decide_eq_true hrc) hml hC hQ
theorem e_cRV6 {v1 v2 v3 v4 v5 : mv_V} {b : Int} {t : Nat} {v : Int} (hK : (mv_m y).1 = K) (hg : mv_get K pc = some (.invokevirtual x, a)) (hz : mv_z a = z) (hrc : (h b).1 = (mv_m z).2.2.2.2.1) (hn : (mv_m z).2.1 = 6) (hml : (mv_ents [(2, b), v1, v2, v3, v4, v5]).length ≤ (mv_m z).2.2.1) (hr : r.length ≤ 4) (hC : mv_Cl sc z [(2, b), v1, v2, v3, v4, v5] c h (mv_Rd (t, v) c h)) (ht : t < 3) (hp : pc + 3 = pc') (k : mv_Ev sc y pc' ls ((t, v) :: r) c h Q) : mv_Ev sc y pc ls (v5 :: v4 :: v3 :: v2 :: v1 :: (2, b) :: r) c h Q := by
  subst hp
  refine e_cQV6 hK hg hz hrc hn hml hr hC (fun v1 c1 h1 hq => ?_)
  obtain ⟨rfl, rfl, rfl⟩ := hq
  refine ⟨by show t ≠ 4; omega, ?_⟩
  rw [if_neg (by show ¬ t = 3; omega)]
  exact k
theorem e_cQS6 {v0 v1 v2 v3 v4 v5 : mv_V} (hK : (mv_m y).1 = K) (hg : mv_get K pc = some (.invokestatic x, a)) (hz : mv_z a = z) (hn : (mv_m z).2.1 = 6) (hml : (mv_ents [v0, v1, v2, v3, v4, v5]).length ≤ (mv_m z).2.2.1) (hr : r.length ≤ 4) (hC : mv_Cl sc z [v0, v1, v2, v3, v4, v5] c h Q1) (hQ : ∀ (v : mv_R) (c1 : mv_C) (h1 : mv_H), Q1 v c1 h1 → v.1 ≠ 4 ∧ mv_Ev sc y (pc + 3) ls (if v.1 = 3 then r else v :: r) c1 h1 Q) : mv_Ev sc y pc ls (v5 :: v4 :: v3 :: v2 :: v1 :: v0 :: r) c h Q :=
  e_call (vs := [v0, v1, v2, v3, v4, v5]) hK hg rfl hz rfl hn hr rfl hml hC hQ
theorem e_cRS6 {v0 v1 v2 v3 v4 v5 : mv_V} {t : Nat} {v : Int} (hK : (mv_m y).1 = K) (hg : mv_get K pc = some (.invokestatic x, a)) (hz : mv_z a = z) (hn : (mv_m z).2.1 = 6) (hml : (mv_ents [v0, v1, v2, v3, v4, v5]).length ≤ (mv_m z).2.2.1) (hr : r.length ≤ 4) (hC : mv_Cl sc z [v0, v1, v2, v3, v4, v5] c h (mv_Rd (t, v) c h)) (ht : t < 3) (hp : pc + 3 = pc') (k : mv_Ev sc y pc' ls ((t, v) :: r) c h Q) : mv_Ev sc y pc ls (v5 :: v4 :: v3 :: v2 :: v1 :: v0 :: r) c h Q := by
  subst hp
  refine e_cQS6 hK hg hz hn hml hr hC (fun v1 c1 h1 hq => ?_)
  obtain ⟨rfl, rfl, rfl⟩ := hq
  refine ⟨by show t ≠ 4; omega, ?_⟩
  rw [if_neg (by show ¬ t = 3; omega)]
  exact k
theorem e_cQI6 {v1 v2 v3 v4 v5 : mv_V} {b : Int} (hK : (mv_m y).1 = K) (hg : mv_get K pc = some (.invokespecial x, a)) (hz : mv_z a = z) (hn : (mv_m z).2.1 = 6) (hml : (mv_ents [(2, b), v1, v2, v3, v4, v5]).length ≤ (mv_m z).2.2.1) (hr : r.length ≤ 4) (hC : mv_Cl sc z [(2, b), v1, v2, v3, v4, v5] c h Q1) (hQ : ∀ (v : mv_R) (c1 : mv_C) (h1 : mv_H), Q1 v c1 h1 → v.1 ≠ 4 ∧ mv_Ev sc y (pc + 3) ls (if v.1 = 3 then r else v :: r) c1 h1 Q) : mv_Ev sc y pc ls (v5 :: v4 :: v3 :: v2 :: v1 :: (2, b) :: r) c h Q :=
  e_call (vs := [(2, b), v1, v2, v3, v4, v5]) hK hg rfl hz rfl hn hr rfl hml hC hQ
theorem e_cRI6 {v1 v2 v3 v4 v5 : mv_V} {b : Int} {t : Nat} {v : Int} (hK : (mv_m y).1 = K) (hg : mv_get K pc = some (.invokespecial x, a)) (hz : mv_z a = z) (hn : (mv_m z).2.1 = 6) (hml : (mv_ents [(2, b), v1, v2, v3, v4, v5]).length ≤ (mv_m z).2.2.1) (hr : r.length ≤ 4) (hC : mv_Cl sc z [(2, b), v1, v2, v3, v4, v5] c h (mv_Rd (t, v) c h)) (ht : t < 3) (hp : pc + 3 = pc') (k : mv_Ev sc y pc' ls ((t, v) :: r) c h Q) : mv_Ev sc y pc ls (v5 :: v4 :: v3 :: v2 :: v1 :: (2, b) :: r) c h Q := by
  subst hp
  refine e_cQI6 hK hg hz hn hml hr hC (fun v1 c1 h1 hq => ?_)
  obtain ⟨rfl, rfl, rfl⟩ := hq
  refine ⟨by show t ≠ 4; omega, ?_⟩
  rw [if_neg (by show ¬ t = 3; omega)]
  exact k
theorem e_cQV7 {v1 v2 v3 v4 v5 v6 : mv_V} {b : Int} (hK : (mv_m y).1 = K) (hg : mv_get K pc = some (.invokevirtual x, a)) (hz : mv_z a = z) (hrc : (h b).1 = (mv_m z).2.2.2.2.1) (hn : (mv_m z).2.1 = 7) (hml : (mv_ents [(2, b), v1, v2, v3, v4, v5, v6]).length ≤ (mv_m z).2.2.1) (hr : r.length ≤ 4) (hC : mv_Cl sc z [(2, b), v1, v2, v3, v4, v5, v6] c h Q1) (hQ : ∀ (v : mv_R) (c1 : mv_C) (h1 : mv_H), Q1 v c1 h1 → v.1 ≠ 4 ∧ mv_Ev sc y (pc + 3) ls (if v.1 = 3 then r else v :: r) c1 h1 Q) : mv_Ev sc y pc ls (v6 :: v5 :: v4 :: v3 :: v2 :: v1 :: (2, b) :: r) c h Q :=
  e_call (vs := [(2, b), v1, v2, v3, v4, v5, v6]) hK hg rfl hz rfl hn hr (decide_eq_true hrc) hml hC hQ
theorem e_cRV7 {v1 v2 v3 v4 v5 v6 : mv_V} {b : Int} {t : Nat} {v : Int} (hK : (mv_m y).1 = K) (hg : mv_get K pc = some (.invokevirtual x, a)) (hz : mv_z a = z) (hrc : (h b).1 = (mv_m z).2.2.2.2.1) (hn : (mv_m z).2.1 = 7) (hml : (mv_ents [(2, b), v1, v2, v3, v4, v5, v6]).length ≤ (mv_m z).2.2.1) (hr : r.length ≤ 4) (hC : mv_Cl sc z [(2, b), v1, v2, v3, v4, v5, v6] c h (mv_Rd (t, v) c h)) (ht : t < 3) (hp : pc + 3 = pc') (k : mv_Ev sc y pc' ls ((t, v) :: r) c h Q) : mv_Ev sc y pc ls (v6 :: v5 :: v4 :: v3 :: v2 :: v1 :: (2, b) :: r) c h Q := by
  subst hp
  refine e_cQV7 hK hg hz hrc hn hml hr hC (fun v1 c1 h1 hq => ?_)
  obtain ⟨rfl, rfl, rfl⟩ := hq
  refine ⟨by show t ≠ 4; omega, ?_⟩
  rw [if_neg (by show ¬ t = 3; omega)]
  exact k
theorem e_cQS7 {v0 v1 v2 v3 v4 v5 v6 : mv_V} (hK : (mv_m y).1 = K) (hg : mv_get K pc = some (.invokestatic x, a)) (hz : mv_z a = z) (hn : (mv_m z).2.1 = 7) (hml : (mv_ents [v0, v1, v2, v3, v4, v5, v6]).length ≤ (mv_m z).2.2.1) (hr : r.length ≤ 4) (hC : mv_Cl sc z [v0, v1, v2, v3, v4, v5, v6] c h Q1) (hQ : ∀ (v : mv_R) (c1 : mv_C) (h1 : mv_H), Q1 v c1 h1 → v.1 ≠ 4 ∧ mv_Ev sc y (pc + 3) ls (if v.1 = 3 then r else v :: r) c1 h1 Q) : mv_Ev sc y pc ls (v6 :: v5 :: v4 :: v3 :: v2 :: v1 :: v0 :: r) c h Q :=
  e_call (vs := [v0, v1, v2, v3, v4, v5, v6]) hK hg rfl hz rfl hn hr rfl hml hC hQ
theorem e_cRS7 {v0 v1 v2 v3 v4 v5 v6 : mv_V} {t : Nat} {v : Int} (hK : (mv_m y).1 = K) (hg : mv_get K pc = some (.invokestatic x, a)) (hz : mv_z a = z) (hn : (mv_m z).2.1 = 7) (hml : (mv_ents [v0, v1, v2, v3, v4, v5, v6]).length ≤ (mv_m z).2.2.1) (hr : r.length ≤ 4) (hC : mv_Cl sc z [v0, v1, v2, v3, v4, v5, v6] c h (mv_Rd (t, v) c h)) (ht : t < 3) (hp : pc + 3 = pc') (k : mv_Ev sc y pc' ls ((t, v) :: r) c h Q) : mv_Ev sc y pc ls (v6 :: v5 :: v4 :: v3 :: v2 :: v1 :: v0 :: r) c h Q := by
  subst hp
  refine e_cQS7 hK hg hz hn hml hr hC (fun v1 c1 h1 hq => ?_)
  obtain ⟨rfl, rfl, rfl⟩ := hq
  refine ⟨by show t ≠ 4; omega, ?_⟩
  rw [if_neg (by show ¬ t = 3; omega)]
  exact k
theorem e_cQI7 {v1 v2 v3 v4 v5 v6 : mv_V} {b : Int} (hK : (mv_m y).1 = K) (hg : mv_get K pc = some (.invokespecial x, a)) (hz : mv_z a = z) (hn : (mv_m z).2.1 = 7) (hml : (mv_ents [(2, b), v1, v2, v3, v4, v5, v6]).length ≤ (mv_m z).2.2.1) (hr : r.length ≤ 4) (hC : mv_Cl sc z [(2, b), v1, v2, v3, v4, v5, v6] c h Q1) (hQ : ∀ (v : mv_R) (c1 : mv_C) (h1 : mv_H), Q1 v c1 h1 → v.1 ≠ 4 ∧ mv_Ev sc y (pc + 3) ls (if v.1 = 3 then r else v :: r) c1 h1 Q) : mv_Ev sc y pc ls (v6 :: v5 :: v4 :: v3 :: v2 :: v1 :: (2, b) :: r) c h Q :=
  e_call (vs := [(2, b), v1, v2, v3, v4, v5, v6]) hK hg rfl hz rfl hn hr rfl hml hC hQ
theorem e_cRI7 {v1 v2 v3 v4 v5 v6 : mv_V} {b : Int} {t : Nat} {v : Int} (hK : (mv_m y).1 = K) (hg : mv_get K pc = some (.invokespecial x, a)) (hz : mv_z a = z) (hn : (mv_m z).2.1 = 7) (hml : (mv_ents [(2, b), v1, v2, v3, v4, v5, v6]).length ≤ (mv_m z).2.2.1) (hr : r.length ≤ 4) (hC : mv_Cl sc z [(2, b), v1, v2, v3, v4, v5, v6] c h (mv_Rd (t, v) c h)) (ht : t < 3) (hp : pc + 3 = pc') (k : mv_Ev sc y pc' ls ((t, v) :: r) c h Q) : mv_Ev sc y pc ls (v6 :: v5 :: v4 :: v3 :: v2 :: v1 :: (2, b) :: r) c h Q := by
  subst hp
  refine e_cQI7 hK hg hz hn hml hr hC (fun v1 c1 h1 hq => ?_)
  obtain ⟨rfl, rfl, rfl⟩ := hq
  refine ⟨by show t ≠ 4; omega, ?_⟩
  rw [if_neg (by show ¬ t = 3; omega)]
  exact k
end CAL
