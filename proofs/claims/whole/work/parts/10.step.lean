theorem nu_z : (0 : Int32) = Int32.ofInt 0 := rfl
theorem nu_z0 : mv_i 0 := ⟨by decide, by decide⟩
theorem nu_eq0 {x : Int} (hx : mv_i x) : Int32.ofInt x = 0 ↔ x = 0 := by rw [nu_z, nu_eq hx nu_z0]
theorem nu_ne0 {x : Int} (hx : mv_i x) : ¬ Int32.ofInt x = 0 ↔ ¬ x = 0 := not_congr (nu_eq0 hx)
theorem nu_lt0 {x : Int} (hx : mv_i x) : Int32.ofInt x < 0 ↔ x < 0 := by rw [nu_z, nu_lt hx nu_z0]
theorem nu_ge0 {x : Int} (hx : mv_i x) : 0 ≤ Int32.ofInt x ↔ 0 ≤ x := by rw [nu_z, nu_le nu_z0 hx]
theorem nu_gt0 {x : Int} (hx : mv_i x) : 0 < Int32.ofInt x ↔ 0 < x := by rw [nu_z, nu_lt nu_z0 hx]
theorem nu_le0 {x : Int} (hx : mv_i x) : Int32.ofInt x ≤ 0 ↔ x ≤ 0 := by rw [nu_z, nu_le hx nu_z0]
theorem nu_b8 {k : Int} (h0 : -128 ≤ k) (h1 : k < 128) : (Int8.ofInt k).toInt32 = Int32.ofInt k := by
  apply nu_eqi
  rw [Int8.toInt_toInt32, Int8.toInt_ofInt_of_le (by omega) (by omega), nu_ti ⟨by omega, by omega⟩]
theorem nu_b16 {k : Int} (h0 : -32768 ≤ k) (h1 : k < 32768) : (Int16.ofInt k).toInt32 = Int32.ofInt k := by
  apply nu_eqi
  rw [Int16.toInt_toInt32, Int16.toInt_ofInt_of_le (by omega) (by omega), nu_ti ⟨by omega, by omega⟩]
theorem nu_and {x y : Int} (h : y = 1 ∨ y = 31) : Int32.ofInt x &&& Int32.ofInt y = Int32.ofInt (x % (y + 1)) := by
  rcases h with rfl | rfl
  · exact nu_and1 x
  · exact nu_and31 x
theorem nu_lcmp {x y : Int} (hx : mv_l x) (hy : mv_l y) : lg_cmp (Int64.ofInt x) (Int64.ofInt y) = Int32.ofInt (mv_cL x y) := by
  unfold lg_cmp mv_cL
  by_cases h1 : x < y
  · rw [if_neg (by rw [gt_iff_lt, nu_lL hy hx]; omega), if_neg (by rw [nu_eL hx hy]; omega), if_pos h1]; rfl
  · by_cases h2 : x = y
    · rw [if_neg (by rw [gt_iff_lt, nu_lL hy hx]; omega), if_pos (by rw [nu_eL hx hy]; omega), if_neg h1, if_pos h2]; rfl
    · rw [if_pos (by rw [gt_iff_lt, nu_lL hy hx]; omega), if_neg h1, if_neg h2]; rfl
/-! one instruction: the real machine follows -/
section STP
variable {p : Program} {l : Launch} {e : Env} {R : Room} {s : State} {m : MethodId} {args : Array Value} {below : List Frame} {meth : Method} {cd : Code} {H : Heap} {locs : List Loc} {cells slots : Nat} {Q : State → Prop}
variable {y pc : Nat} {D : va_G} {bs base L : Nat} {xs : Nat → Int32} {ι : Int → Nat} {n : Nat} {h : mv_H} {lsr : Array Slot} {str : List Value} {ls st : List mv_V} {i : Instr} {a : Int}
theorem mv_rl_at {nL : Nat} (hl : mv_rl ι n bs ls nL lsr) {k : Nat} {v : mv_V} (hv : ls[k]? = some v) (h5 : v.1 ≠ 5) : ∃ x, lsr[k]? = some (.val x) ∧ mv_rv ι n bs v x := by
  obtain ⟨h1, lv, h2, h3⟩ := hl
  obtain ⟨x, hx, hr⟩ := h3 k v hv h5
  exact ⟨x, h2.2.2 (k, x) hx, hr⟩
theorem mv_s1_spec {k : Nat} {v : mv_V} {l1 : List mv_V} (h1 : mv_s1 ls k v = some l1) : k < ls.length ∧ l1 = ls.set k v ∧ ∀ w : mv_V, ls[k - 1]? = some w → 0 < k → w.1 ≠ 1 := by
  unfold mv_s1 at h1
  split at h1
  · split at h1
    · cases h1
    · cases h1
      refine ⟨‹_›, rfl, fun w hw h0 h2 => ?_⟩
      rename_i hn
      exact hn ⟨h0, by rw [List.getD_eq_getElem?_getD, hw]; exact h2⟩
  · cases h1
theorem mv_s2_spec {k : Nat} {v : mv_V} {l1 : List mv_V} (h1 : mv_s2 ls k v = some l1) : k + 1 < ls.length ∧ l1 = (ls.set k v).set (k + 1) (5, 0) ∧ ∀ w : mv_V, ls[k - 1]? = some w → 0 < k → w.1 ≠ 1 := by
  unfold mv_s2 at h1
  split at h1
  · split at h1
    · cases h1
    · cases h1
      refine ⟨‹_›, rfl, fun w hw h0 h2 => ?_⟩
      rename_i hn
      exact hn ⟨h0, by rw [List.getD_eq_getElem?_getD, hw]; exact h2⟩
  · cases h1
/-- the locals after a store of one word -/
theorem mv_st1 {nL : Nat} {k : Nat} {v : mv_V} {x : Value} {l1 : List mv_V} {lv : List (Nat × Value)} {lsr1 : Array Slot} (hl : ls.length = nL) (hv : ∀ (i : Nat) (v : mv_V), ls[i]? = some v → v.1 ≠ 5 → ∃ x, (i, x) ∈ lv ∧ mv_rv ι n bs v x) (hs : mv_s1 ls k v = some l1) (hx : mv_rv ι n bs v x)
    (hh : lv_has lsr1 nL ((k, x) :: lv.filter (fun q => !(q.1 == k) && !(q.1 + 1 == k && q.2.category == 2)))) : mv_rl ι n bs l1 nL lsr1 := by
  obtain ⟨h1, rfl, h3⟩ := mv_s1_spec hs
  refine ⟨by rw [List.length_set]; exact hl, _, hh, fun j w hw h5 => ?_⟩
  by_cases hj : j = k
  · subst hj
    rw [List.getElem?_set_self h1] at hw
    cases hw
    exact ⟨x, List.mem_cons_self, hx⟩
  · rw [List.getElem?_set_ne (fun z => hj z.symm)] at hw
    obtain ⟨x1, m1, r1⟩ := hv j w hw h5
    refine ⟨x1, List.mem_cons_of_mem _ (List.mem_filter.mpr ⟨m1, ?_⟩), r1⟩
    simp only [Bool.and_eq_true, Bool.not_eq_true', Bool.and_eq_false_iff, beq_eq_false_iff_ne, ne_eq]
    refine ⟨hj, ?_⟩
    by_cases hjk : j + 1 = k
    · right
      have hw1 : w.1 ≠ 1 := h3 w (by rw [← hjk]; exact hw) (by omega)
      rw [mv_rv_cat r1 hw1]; decide
    · exact Or.inl hjk
theorem mv_st2 {nL : Nat} {k : Nat} {v : mv_V} {x : Value} {l1 : List mv_V} {lv : List (Nat × Value)} {lsr1 : Array Slot} (hl : ls.length = nL) (hv : ∀ (i : Nat) (v : mv_V), ls[i]? = some v → v.1 ≠ 5 → ∃ x, (i, x) ∈ lv ∧ mv_rv ι n bs v x) (hs : mv_s2 ls k v = some l1) (hx : mv_rv ι n bs v x)
    (hh : lv_has lsr1 nL ((k, x) :: lv.filter (fun q => !(q.1 == k) && (!(q.1 == k + 1) && !(q.1 + 1 == k && q.2.category == 2))))) : mv_rl ι n bs l1 nL lsr1 := by
  obtain ⟨h1, rfl, h3⟩ := mv_s2_spec hs
  refine ⟨by rw [List.length_set, List.length_set]; exact hl, _, hh, fun j w hw h5 => ?_⟩
  by_cases hk1 : j = k + 1
  · subst hk1
    rw [List.getElem?_set_self (by rw [List.length_set]; exact h1)] at hw
    cases hw
    exact absurd rfl h5
  · rw [List.getElem?_set_ne (fun z => hk1 z.symm)] at hw
    by_cases hj : j = k
    · subst hj
      rw [List.getElem?_set_self (by omega)] at hw
      cases hw
      exact ⟨x, List.mem_cons_self, hx⟩
    · rw [List.getElem?_set_ne (fun z => hj z.symm)] at hw
      obtain ⟨x1, m1, r1⟩ := hv j w hw h5
      refine ⟨x1, List.mem_cons_of_mem _ (List.mem_filter.mpr ⟨m1, ?_⟩), r1⟩
      simp only [Bool.and_eq_true, Bool.not_eq_true', Bool.and_eq_false_iff, beq_eq_false_iff_ne, ne_eq]
      refine ⟨hj, hk1, ?_⟩
      by_cases hjk : j + 1 = k
      · right
        have hw1 : w.1 ≠ 1 := h3 w (by rw [← hjk]; exact hw) (by omega)
        rw [mv_rv_cat r1 hw1]; decide
      · exact Or.inl hjk
theorem mv_b2_spec {f : Int → Int → List mv_V → Option mv_S} {S : mv_S} (hf : mv_b2 st f = some S) : ∃ x y r, st = (0, y) :: (0, x) :: r ∧ f x y r = some S := by
  unfold mv_b2 at hf
  split at hf
  · exact ⟨_, _, _, rfl, hf⟩
  · cases hf
theorem mv_j2_spec {f : Int → Int → List mv_V → Option mv_S} {S : mv_S} (hf : mv_j2 st f = some S) : ∃ x y r, st = (1, y) :: (1, x) :: r ∧ f x y r = some S := by
  unfold mv_j2 at hf
  split at hf
  · exact ⟨_, _, _, rfl, hf⟩
  · cases hf
theorem mv_ld_spec {t k q : Nat} {c : mv_C} {S : mv_S} (hf : mv_ld t k q ls st c h = some S) : ∃ v, ls[k]? = some v ∧ v.1 = t ∧ S = (q, ls, v :: st, c, h) := by
  unfold mv_ld at hf
  split at hf
  · split at hf
    · cases hf; exact ⟨_, ‹_›, ‹_›, rfl⟩
    · cases hf
  · cases hf
theorem mv_jmp_spec {off : Int} {c : mv_C} {S : mv_S} (hf : mv_jmp pc off ls st c h = some S) : ∃ t : Nat, (pc : Int) + off = t ∧ S = (t, ls, st, c, h) := by
  unfold mv_jmp at hf
  split at hf
  · cases hf; exact ⟨_, (Int.toNat_of_nonneg ‹_›).symm, rfl⟩
  · cases hf
theorem mv_v0 {v : mv_V} (h0 : v.1 = 0) : v = (0, v.2) := by obtain ⟨t, z⟩ := v; cases h0; rfl
theorem mv_v1 {v : mv_V} (h0 : v.1 = 1) : v = (1, v.2) := by obtain ⟨t, z⟩ := v; cases h0; rfl
theorem mv_v2 {v : mv_V} (h0 : v.1 = 2) : v = (2, v.2) := by obtain ⟨t, z⟩ := v; cases h0; rfl

theorem mv_w_iconst {c c' : mv_C} {h' : mv_H} {pc' : Nat} {ls' st' : List mv_V} {k : Int} (X : mv_Cx p l m args meth cd y D bs base L xs s) (hg : mv_get (mv_m y).1 pc = some (.iconst k, a)) (hs : mv_step ((L : Int), fun j => (xs j.toNat).toInt) pc (.iconst k) a ls st c h = some (pc', ls', st', c', h'))
    (rel : mv_Rl D s bs base ι c.1 h H locs (mv_m y).2.2.1 lsr str ls st) (hcs : cells + (c'.2.1 - c.2.1) ≤ R.cells) (hss : slots + (c'.2.2 - c.2.2) ≤ R.slots)
    (K : ∀ (H1 : Heap) (locs1 : List Loc) (ι1 : Int → Nat) (lsr1 : Array Slot) (str1 : List Value), mv_Rl D s bs base ι1 c'.1 h' H1 locs1 (mv_m y).2.2.1 lsr1 str1 ls' st' → (∀ j : Int, 0 ≤ j → j < c.1 → ι1 j = ι j) → W p l e R s m args below meth cd H1 locs1 (cells + (c'.2.1 - c.2.1)) (slots + (c'.2.2 - c.2.2)) Q (F0 m pc' lsr1 str1)) : W p l e R s m args below meth cd H locs cells slots Q (F0 m pc lsr str) := by
  obtain ⟨hx, hb, hml, hret, hlk, hown, hnm, hxt, hst0, hF⟩ := id X
  obtain ⟨ws, hP, hD, hS, hw, hl, hst⟩ := rel
  have hd := mv_dec hg
  simp only [mv_step] at hs
  cases hs
  have K0 : ∀ lsr1 str1, mv_rl ι c.1 bs ls (mv_m y).2.2.1 lsr1 → mv_rs ι c.1 bs (((0 : Nat), k) :: st) str1 → W p l e R s m args below meth cd H locs cells slots Q (F0 m (pc + 1) lsr1 str1) := fun lsr1 str1 r1 r2 => by
    have := K H locs ι lsr1 str1 ⟨ws, hP, hD, hS, hw, r1, r2⟩ (fun _ _ _ => rfl)
    simpa only [Nat.sub_self, Nat.add_zero] using this
  exact lv_iconst hx hb (v := Int32.ofInt k) hd rfl (K0 _ _ hl ⟨rfl, hst⟩)
theorem mv_w_bipush {c c' : mv_C} {h' : mv_H} {pc' : Nat} {ls' st' : List mv_V} {k : Int} (X : mv_Cx p l m args meth cd y D bs base L xs s) (hg : mv_get (mv_m y).1 pc = some (.bipush k, a)) (hs : mv_step ((L : Int), fun j => (xs j.toNat).toInt) pc (.bipush k) a ls st c h = some (pc', ls', st', c', h'))
    (rel : mv_Rl D s bs base ι c.1 h H locs (mv_m y).2.2.1 lsr str ls st) (hcs : cells + (c'.2.1 - c.2.1) ≤ R.cells) (hss : slots + (c'.2.2 - c.2.2) ≤ R.slots)
    (K : ∀ (H1 : Heap) (locs1 : List Loc) (ι1 : Int → Nat) (lsr1 : Array Slot) (str1 : List Value), mv_Rl D s bs base ι1 c'.1 h' H1 locs1 (mv_m y).2.2.1 lsr1 str1 ls' st' → (∀ j : Int, 0 ≤ j → j < c.1 → ι1 j = ι j) → W p l e R s m args below meth cd H1 locs1 (cells + (c'.2.1 - c.2.1)) (slots + (c'.2.2 - c.2.2)) Q (F0 m pc' lsr1 str1)) : W p l e R s m args below meth cd H locs cells slots Q (F0 m pc lsr str) := by
  obtain ⟨hx, hb, hml, hret, hlk, hown, hnm, hxt, hst0, hF⟩ := id X
  obtain ⟨ws, hP, hD, hS, hw, hl, hst⟩ := rel
  have hd := mv_dec hg
  simp only [mv_step] at hs
  split at hs
  · cases hs
    rename_i hr
    have K0 : ∀ lsr1 str1, mv_rl ι c.1 bs ls (mv_m y).2.2.1 lsr1 → mv_rs ι c.1 bs ((((0 : Nat), k)) :: st) str1 → W p l e R s m args below meth cd H locs cells slots Q (F0 m (pc + 2) lsr1 str1) := fun lsr1 str1 r1 r2 => by
      have := K H locs ι lsr1 str1 ⟨ws, hP, hD, hS, hw, r1, r2⟩ (fun _ _ _ => rfl)
      simpa only [Nat.sub_self, Nat.add_zero] using this
    exact lv_bipush hx hb hd rfl (K0 _ _ hl ⟨(by show Value.int _ = Value.int _; rw [nu_b8 hr.1 hr.2]), hst⟩)
  · cases hs
theorem mv_w_sipush {c c' : mv_C} {h' : mv_H} {pc' : Nat} {ls' st' : List mv_V} {k : Int} (X : mv_Cx p l m args meth cd y D bs base L xs s) (hg : mv_get (mv_m y).1 pc = some (.sipush k, a)) (hs : mv_step ((L : Int), fun j => (xs j.toNat).toInt) pc (.sipush k) a ls st c h = some (pc', ls', st', c', h'))
    (rel : mv_Rl D s bs base ι c.1 h H locs (mv_m y).2.2.1 lsr str ls st) (hcs : cells + (c'.2.1 - c.2.1) ≤ R.cells) (hss : slots + (c'.2.2 - c.2.2) ≤ R.slots)
    (K : ∀ (H1 : Heap) (locs1 : List Loc) (ι1 : Int → Nat) (lsr1 : Array Slot) (str1 : List Value), mv_Rl D s bs base ι1 c'.1 h' H1 locs1 (mv_m y).2.2.1 lsr1 str1 ls' st' → (∀ j : Int, 0 ≤ j → j < c.1 → ι1 j = ι j) → W p l e R s m args below meth cd H1 locs1 (cells + (c'.2.1 - c.2.1)) (slots + (c'.2.2 - c.2.2)) Q (F0 m pc' lsr1 str1)) : W p l e R s m args below meth cd H locs cells slots Q (F0 m pc lsr str) := by
  obtain ⟨hx, hb, hml, hret, hlk, hown, hnm, hxt, hst0, hF⟩ := id X
  obtain ⟨ws, hP, hD, hS, hw, hl, hst⟩ := rel
  have hd := mv_dec hg
  simp only [mv_step] at hs
  split at hs
  · cases hs
    rename_i hr
    have K0 : ∀ lsr1 str1, mv_rl ι c.1 bs ls (mv_m y).2.2.1 lsr1 → mv_rs ι c.1 bs ((((0 : Nat), k)) :: st) str1 → W p l e R s m args below meth cd H locs cells slots Q (F0 m (pc + 3) lsr1 str1) := fun lsr1 str1 r1 r2 => by
      have := K H locs ι lsr1 str1 ⟨ws, hP, hD, hS, hw, r1, r2⟩ (fun _ _ _ => rfl)
      simpa only [Nat.sub_self, Nat.add_zero] using this
    exact lv_sipush hx hb hd rfl (K0 _ _ hl ⟨(by show Value.int _ = Value.int _; rw [nu_b16 hr.1 hr.2]), hst⟩)
  · cases hs
theorem mv_w_lconst {c c' : mv_C} {h' : mv_H} {pc' : Nat} {ls' st' : List mv_V} {k : Fin 2} (X : mv_Cx p l m args meth cd y D bs base L xs s) (hg : mv_get (mv_m y).1 pc = some (.lconst k, a)) (hs : mv_step ((L : Int), fun j => (xs j.toNat).toInt) pc (.lconst k) a ls st c h = some (pc', ls', st', c', h'))
    (rel : mv_Rl D s bs base ι c.1 h H locs (mv_m y).2.2.1 lsr str ls st) (hcs : cells + (c'.2.1 - c.2.1) ≤ R.cells) (hss : slots + (c'.2.2 - c.2.2) ≤ R.slots)
    (K : ∀ (H1 : Heap) (locs1 : List Loc) (ι1 : Int → Nat) (lsr1 : Array Slot) (str1 : List Value), mv_Rl D s bs base ι1 c'.1 h' H1 locs1 (mv_m y).2.2.1 lsr1 str1 ls' st' → (∀ j : Int, 0 ≤ j → j < c.1 → ι1 j = ι j) → W p l e R s m args below meth cd H1 locs1 (cells + (c'.2.1 - c.2.1)) (slots + (c'.2.2 - c.2.2)) Q (F0 m pc' lsr1 str1)) : W p l e R s m args below meth cd H locs cells slots Q (F0 m pc lsr str) := by
  obtain ⟨hx, hb, hml, hret, hlk, hown, hnm, hxt, hst0, hF⟩ := id X
  obtain ⟨ws, hP, hD, hS, hw, hl, hst⟩ := rel
  have hd := mv_dec hg
  simp only [mv_step] at hs
  cases hs
  have K0 : ∀ lsr1 str1, mv_rl ι c.1 bs ls (mv_m y).2.2.1 lsr1 → mv_rs ι c.1 bs (((1 : Nat), ((k : Nat) : Int)) :: st) str1 → W p l e R s m args below meth cd H locs cells slots Q (F0 m (pc + 1) lsr1 str1) := fun lsr1 str1 r1 r2 => by
    have := K H locs ι lsr1 str1 ⟨ws, hP, hD, hS, hw, r1, r2⟩ (fun _ _ _ => rfl)
    simpa only [Nat.sub_self, Nat.add_zero] using this
  exact lv_lconst hx hb (v := Int64.ofInt ((k : Nat) : Int)) hd rfl (K0 _ _ hl ⟨rfl, hst⟩)
theorem mv_w_ldc {c c' : mv_C} {h' : mv_H} {pc' : Nat} {ls' st' : List mv_V} {k : Nat} (X : mv_Cx p l m args meth cd y D bs base L xs s) (hg : mv_get (mv_m y).1 pc = some (.ldc k, a)) (hs : mv_step ((L : Int), fun j => (xs j.toNat).toInt) pc (.ldc k) a ls st c h = some (pc', ls', st', c', h'))
    (rel : mv_Rl D s bs base ι c.1 h H locs (mv_m y).2.2.1 lsr str ls st) (hcs : cells + (c'.2.1 - c.2.1) ≤ R.cells) (hss : slots + (c'.2.2 - c.2.2) ≤ R.slots)
    (K : ∀ (H1 : Heap) (locs1 : List Loc) (ι1 : Int → Nat) (lsr1 : Array Slot) (str1 : List Value), mv_Rl D s bs base ι1 c'.1 h' H1 locs1 (mv_m y).2.2.1 lsr1 str1 ls' st' → (∀ j : Int, 0 ≤ j → j < c.1 → ι1 j = ι j) → W p l e R s m args below meth cd H1 locs1 (cells + (c'.2.1 - c.2.1)) (slots + (c'.2.2 - c.2.2)) Q (F0 m pc' lsr1 str1)) : W p l e R s m args below meth cd H locs cells slots Q (F0 m pc lsr str) := by
  obtain ⟨hx, hb, hml, hret, hlk, hown, hnm, hxt, hst0, hF⟩ := id X
  obtain ⟨ws, hP, hD, hS, hw, hl, hst⟩ := rel
  have hd := mv_dec hg
  simp only [mv_step] at hs
  cases hs
  have K0 : ∀ lsr1 str1, mv_rl ι c.1 bs ls (mv_m y).2.2.1 lsr1 → mv_rs ι c.1 bs (((0 : Nat), a) :: st) str1 → W p l e R s m args below meth cd H locs cells slots Q (F0 m (pc + 2) lsr1 str1) := fun lsr1 str1 r1 r2 => by
    have := K H locs ι lsr1 str1 ⟨ws, hP, hD, hS, hw, r1, r2⟩ (fun _ _ _ => rfl)
    simpa only [Nat.sub_self, Nat.add_zero] using this
  obtain ⟨pl, hpl⟩ := mv_pool hg
  have hc : (Cond.constant (mv_ow y) k (Int32.ofInt a)).before args s = true := by
    match pl, hpl with
    | [q], hpl => exact hF.1 _ (mv_G_in (mv_at_in hpl) rfl) _
    | [], hpl => cases hpl
    | _ :: _ :: _, hpl => cases hpl
  exact lv_ldc hx hb hown hc hd (K0 _ _ hl ⟨rfl, hst⟩)
theorem mv_w_ldc_w {c c' : mv_C} {h' : mv_H} {pc' : Nat} {ls' st' : List mv_V} {k : Nat} (X : mv_Cx p l m args meth cd y D bs base L xs s) (hg : mv_get (mv_m y).1 pc = some (.ldc_w k, a)) (hs : mv_step ((L : Int), fun j => (xs j.toNat).toInt) pc (.ldc_w k) a ls st c h = some (pc', ls', st', c', h'))
    (rel : mv_Rl D s bs base ι c.1 h H locs (mv_m y).2.2.1 lsr str ls st) (hcs : cells + (c'.2.1 - c.2.1) ≤ R.cells) (hss : slots + (c'.2.2 - c.2.2) ≤ R.slots)
    (K : ∀ (H1 : Heap) (locs1 : List Loc) (ι1 : Int → Nat) (lsr1 : Array Slot) (str1 : List Value), mv_Rl D s bs base ι1 c'.1 h' H1 locs1 (mv_m y).2.2.1 lsr1 str1 ls' st' → (∀ j : Int, 0 ≤ j → j < c.1 → ι1 j = ι j) → W p l e R s m args below meth cd H1 locs1 (cells + (c'.2.1 - c.2.1)) (slots + (c'.2.2 - c.2.2)) Q (F0 m pc' lsr1 str1)) : W p l e R s m args below meth cd H locs cells slots Q (F0 m pc lsr str) := by
  obtain ⟨hx, hb, hml, hret, hlk, hown, hnm, hxt, hst0, hF⟩ := id X
  obtain ⟨ws, hP, hD, hS, hw, hl, hst⟩ := rel
  have hd := mv_dec hg
  simp only [mv_step] at hs
  cases hs
  have K0 : ∀ lsr1 str1, mv_rl ι c.1 bs ls (mv_m y).2.2.1 lsr1 → mv_rs ι c.1 bs (((0 : Nat), a) :: st) str1 → W p l e R s m args below meth cd H locs cells slots Q (F0 m (pc + 3) lsr1 str1) := fun lsr1 str1 r1 r2 => by
    have := K H locs ι lsr1 str1 ⟨ws, hP, hD, hS, hw, r1, r2⟩ (fun _ _ _ => rfl)
    simpa only [Nat.sub_self, Nat.add_zero] using this
  obtain ⟨pl, hpl⟩ := mv_pool hg
  have hc : (Cond.constant (mv_ow y) k (Int32.ofInt a)).before args s = true := by
    match pl, hpl with
    | [q], hpl => exact hF.1 _ (mv_G_in (mv_at_in hpl) rfl) _
    | [], hpl => cases hpl
    | _ :: _ :: _, hpl => cases hpl
  exact lv_ldcw hx hb hown hc hd (K0 _ _ hl ⟨rfl, hst⟩)
theorem mv_w_ldc2_w {c c' : mv_C} {h' : mv_H} {pc' : Nat} {ls' st' : List mv_V} {k : Nat} (X : mv_Cx p l m args meth cd y D bs base L xs s) (hg : mv_get (mv_m y).1 pc = some (.ldc2_w k, a)) (hs : mv_step ((L : Int), fun j => (xs j.toNat).toInt) pc (.ldc2_w k) a ls st c h = some (pc', ls', st', c', h'))
    (rel : mv_Rl D s bs base ι c.1 h H locs (mv_m y).2.2.1 lsr str ls st) (hcs : cells + (c'.2.1 - c.2.1) ≤ R.cells) (hss : slots + (c'.2.2 - c.2.2) ≤ R.slots)
    (K : ∀ (H1 : Heap) (locs1 : List Loc) (ι1 : Int → Nat) (lsr1 : Array Slot) (str1 : List Value), mv_Rl D s bs base ι1 c'.1 h' H1 locs1 (mv_m y).2.2.1 lsr1 str1 ls' st' → (∀ j : Int, 0 ≤ j → j < c.1 → ι1 j = ι j) → W p l e R s m args below meth cd H1 locs1 (cells + (c'.2.1 - c.2.1)) (slots + (c'.2.2 - c.2.2)) Q (F0 m pc' lsr1 str1)) : W p l e R s m args below meth cd H locs cells slots Q (F0 m pc lsr str) := by
  obtain ⟨hx, hb, hml, hret, hlk, hown, hnm, hxt, hst0, hF⟩ := id X
  obtain ⟨ws, hP, hD, hS, hw, hl, hst⟩ := rel
  have hd := mv_dec hg
  simp only [mv_step] at hs
  cases hs
  have K0 : ∀ lsr1 str1, mv_rl ι c.1 bs ls (mv_m y).2.2.1 lsr1 → mv_rs ι c.1 bs (((1 : Nat), a) :: st) str1 → W p l e R s m args below meth cd H locs cells slots Q (F0 m (pc + 3) lsr1 str1) := fun lsr1 str1 r1 r2 => by
    have := K H locs ι lsr1 str1 ⟨ws, hP, hD, hS, hw, r1, r2⟩ (fun _ _ _ => rfl)
    simpa only [Nat.sub_self, Nat.add_zero] using this
  obtain ⟨pl, hpl⟩ := mv_pool hg
  have hc : (Cond.constantLong (mv_ow y) k (Int64.ofInt a)).before args s = true := by
    match pl, hpl with
    | [q], hpl => exact hF.1 _ (mv_G_in (mv_at_in hpl) rfl) _
    | [], hpl => cases hpl
    | _ :: _ :: _, hpl => cases hpl
  exact lv_ldc2 hx hb hown hc hd (K0 _ _ hl ⟨rfl, hst⟩)
theorem mv_w_iload {c c' : mv_C} {h' : mv_H} {pc' : Nat} {ls' st' : List mv_V} {k : Nat} (X : mv_Cx p l m args meth cd y D bs base L xs s) (hg : mv_get (mv_m y).1 pc = some (.iload k, a)) (hs : mv_step ((L : Int), fun j => (xs j.toNat).toInt) pc (.iload k) a ls st c h = some (pc', ls', st', c', h'))
    (rel : mv_Rl D s bs base ι c.1 h H locs (mv_m y).2.2.1 lsr str ls st) (hcs : cells + (c'.2.1 - c.2.1) ≤ R.cells) (hss : slots + (c'.2.2 - c.2.2) ≤ R.slots)
    (K : ∀ (H1 : Heap) (locs1 : List Loc) (ι1 : Int → Nat) (lsr1 : Array Slot) (str1 : List Value), mv_Rl D s bs base ι1 c'.1 h' H1 locs1 (mv_m y).2.2.1 lsr1 str1 ls' st' → (∀ j : Int, 0 ≤ j → j < c.1 → ι1 j = ι j) → W p l e R s m args below meth cd H1 locs1 (cells + (c'.2.1 - c.2.1)) (slots + (c'.2.2 - c.2.2)) Q (F0 m pc' lsr1 str1)) : W p l e R s m args below meth cd H locs cells slots Q (F0 m pc lsr str) := by
  obtain ⟨hx, hb, hml, hret, hlk, hown, hnm, hxt, hst0, hF⟩ := id X
  obtain ⟨ws, hP, hD, hS, hw, hl, hst⟩ := rel
  have hd := mv_dec hg
  simp only [mv_step] at hs
  obtain ⟨v, h1, h2, h3⟩ := mv_ld_spec hs
  cases h3
  rw [mv_v0 h2] at h1 K
  have K0 : ∀ lsr1 str1, mv_rl ι c.1 bs ls (mv_m y).2.2.1 lsr1 → mv_rs ι c.1 bs ((0, v.2) :: st) str1 → W p l e R s m args below meth cd H locs cells slots Q (F0 m (pc + 2) lsr1 str1) := fun lsr1 str1 r1 r2 => by
    have := K H locs ι lsr1 str1 ⟨ws, hP, hD, hS, hw, r1, r2⟩ (fun _ _ _ => rfl)
    simpa only [Nat.sub_self, Nat.add_zero] using this
  obtain ⟨x, hx1, hx2⟩ := mv_rl_at hl h1 (by simp)
  cases hx2
  exact lv_iload hx hb hd hx1 (K0 _ _ hl ⟨rfl, hst⟩)
theorem mv_w_iload_n {c c' : mv_C} {h' : mv_H} {pc' : Nat} {ls' st' : List mv_V} {k : Fin 4} (X : mv_Cx p l m args meth cd y D bs base L xs s) (hg : mv_get (mv_m y).1 pc = some (.iload_n k, a)) (hs : mv_step ((L : Int), fun j => (xs j.toNat).toInt) pc (.iload_n k) a ls st c h = some (pc', ls', st', c', h'))
    (rel : mv_Rl D s bs base ι c.1 h H locs (mv_m y).2.2.1 lsr str ls st) (hcs : cells + (c'.2.1 - c.2.1) ≤ R.cells) (hss : slots + (c'.2.2 - c.2.2) ≤ R.slots)
    (K : ∀ (H1 : Heap) (locs1 : List Loc) (ι1 : Int → Nat) (lsr1 : Array Slot) (str1 : List Value), mv_Rl D s bs base ι1 c'.1 h' H1 locs1 (mv_m y).2.2.1 lsr1 str1 ls' st' → (∀ j : Int, 0 ≤ j → j < c.1 → ι1 j = ι j) → W p l e R s m args below meth cd H1 locs1 (cells + (c'.2.1 - c.2.1)) (slots + (c'.2.2 - c.2.2)) Q (F0 m pc' lsr1 str1)) : W p l e R s m args below meth cd H locs cells slots Q (F0 m pc lsr str) := by
  obtain ⟨hx, hb, hml, hret, hlk, hown, hnm, hxt, hst0, hF⟩ := id X
  obtain ⟨ws, hP, hD, hS, hw, hl, hst⟩ := rel
  have hd := mv_dec hg
  simp only [mv_step] at hs
  obtain ⟨v, h1, h2, h3⟩ := mv_ld_spec hs
  cases h3
  rw [mv_v0 h2] at h1 K
  have K0 : ∀ lsr1 str1, mv_rl ι c.1 bs ls (mv_m y).2.2.1 lsr1 → mv_rs ι c.1 bs ((0, v.2) :: st) str1 → W p l e R s m args below meth cd H locs cells slots Q (F0 m (pc + 1) lsr1 str1) := fun lsr1 str1 r1 r2 => by
    have := K H locs ι lsr1 str1 ⟨ws, hP, hD, hS, hw, r1, r2⟩ (fun _ _ _ => rfl)
    simpa only [Nat.sub_self, Nat.add_zero] using this
  obtain ⟨x, hx1, hx2⟩ := mv_rl_at hl h1 (by simp)
  cases hx2
  exact lv_iload_n hx hb hd rfl hx1 (K0 _ _ hl ⟨rfl, hst⟩)
theorem mv_w_lload {c c' : mv_C} {h' : mv_H} {pc' : Nat} {ls' st' : List mv_V} {k : Nat} (X : mv_Cx p l m args meth cd y D bs base L xs s) (hg : mv_get (mv_m y).1 pc = some (.lload k, a)) (hs : mv_step ((L : Int), fun j => (xs j.toNat).toInt) pc (.lload k) a ls st c h = some (pc', ls', st', c', h'))
    (rel : mv_Rl D s bs base ι c.1 h H locs (mv_m y).2.2.1 lsr str ls st) (hcs : cells + (c'.2.1 - c.2.1) ≤ R.cells) (hss : slots + (c'.2.2 - c.2.2) ≤ R.slots)
    (K : ∀ (H1 : Heap) (locs1 : List Loc) (ι1 : Int → Nat) (lsr1 : Array Slot) (str1 : List Value), mv_Rl D s bs base ι1 c'.1 h' H1 locs1 (mv_m y).2.2.1 lsr1 str1 ls' st' → (∀ j : Int, 0 ≤ j → j < c.1 → ι1 j = ι j) → W p l e R s m args below meth cd H1 locs1 (cells + (c'.2.1 - c.2.1)) (slots + (c'.2.2 - c.2.2)) Q (F0 m pc' lsr1 str1)) : W p l e R s m args below meth cd H locs cells slots Q (F0 m pc lsr str) := by
  obtain ⟨hx, hb, hml, hret, hlk, hown, hnm, hxt, hst0, hF⟩ := id X
  obtain ⟨ws, hP, hD, hS, hw, hl, hst⟩ := rel
  have hd := mv_dec hg
  simp only [mv_step] at hs
  obtain ⟨v, h1, h2, h3⟩ := mv_ld_spec hs
  cases h3
  rw [mv_v1 h2] at h1 K
  have K0 : ∀ lsr1 str1, mv_rl ι c.1 bs ls (mv_m y).2.2.1 lsr1 → mv_rs ι c.1 bs ((1, v.2) :: st) str1 → W p l e R s m args below meth cd H locs cells slots Q (F0 m (pc + 2) lsr1 str1) := fun lsr1 str1 r1 r2 => by
    have := K H locs ι lsr1 str1 ⟨ws, hP, hD, hS, hw, r1, r2⟩ (fun _ _ _ => rfl)
    simpa only [Nat.sub_self, Nat.add_zero] using this
  obtain ⟨x, hx1, hx2⟩ := mv_rl_at hl h1 (by simp)
  cases hx2
  exact lv_lload hx hb hd hx1 (K0 _ _ hl ⟨rfl, hst⟩)
theorem mv_w_lload_n {c c' : mv_C} {h' : mv_H} {pc' : Nat} {ls' st' : List mv_V} {k : Fin 4} (X : mv_Cx p l m args meth cd y D bs base L xs s) (hg : mv_get (mv_m y).1 pc = some (.lload_n k, a)) (hs : mv_step ((L : Int), fun j => (xs j.toNat).toInt) pc (.lload_n k) a ls st c h = some (pc', ls', st', c', h'))
    (rel : mv_Rl D s bs base ι c.1 h H locs (mv_m y).2.2.1 lsr str ls st) (hcs : cells + (c'.2.1 - c.2.1) ≤ R.cells) (hss : slots + (c'.2.2 - c.2.2) ≤ R.slots)
    (K : ∀ (H1 : Heap) (locs1 : List Loc) (ι1 : Int → Nat) (lsr1 : Array Slot) (str1 : List Value), mv_Rl D s bs base ι1 c'.1 h' H1 locs1 (mv_m y).2.2.1 lsr1 str1 ls' st' → (∀ j : Int, 0 ≤ j → j < c.1 → ι1 j = ι j) → W p l e R s m args below meth cd H1 locs1 (cells + (c'.2.1 - c.2.1)) (slots + (c'.2.2 - c.2.2)) Q (F0 m pc' lsr1 str1)) : W p l e R s m args below meth cd H locs cells slots Q (F0 m pc lsr str) := by
  obtain ⟨hx, hb, hml, hret, hlk, hown, hnm, hxt, hst0, hF⟩ := id X
  obtain ⟨ws, hP, hD, hS, hw, hl, hst⟩ := rel
  have hd := mv_dec hg
  simp only [mv_step] at hs
  obtain ⟨v, h1, h2, h3⟩ := mv_ld_spec hs
  cases h3
  rw [mv_v1 h2] at h1 K
  have K0 : ∀ lsr1 str1, mv_rl ι c.1 bs ls (mv_m y).2.2.1 lsr1 → mv_rs ι c.1 bs ((1, v.2) :: st) str1 → W p l e R s m args below meth cd H locs cells slots Q (F0 m (pc + 1) lsr1 str1) := fun lsr1 str1 r1 r2 => by
    have := K H locs ι lsr1 str1 ⟨ws, hP, hD, hS, hw, r1, r2⟩ (fun _ _ _ => rfl)
    simpa only [Nat.sub_self, Nat.add_zero] using this
  obtain ⟨x, hx1, hx2⟩ := mv_rl_at hl h1 (by simp)
  cases hx2
  exact lv_lload_n hx hb hd rfl hx1 (K0 _ _ hl ⟨rfl, hst⟩)
theorem mv_w_aload {c c' : mv_C} {h' : mv_H} {pc' : Nat} {ls' st' : List mv_V} {k : Nat} (X : mv_Cx p l m args meth cd y D bs base L xs s) (hg : mv_get (mv_m y).1 pc = some (.aload k, a)) (hs : mv_step ((L : Int), fun j => (xs j.toNat).toInt) pc (.aload k) a ls st c h = some (pc', ls', st', c', h'))
    (rel : mv_Rl D s bs base ι c.1 h H locs (mv_m y).2.2.1 lsr str ls st) (hcs : cells + (c'.2.1 - c.2.1) ≤ R.cells) (hss : slots + (c'.2.2 - c.2.2) ≤ R.slots)
    (K : ∀ (H1 : Heap) (locs1 : List Loc) (ι1 : Int → Nat) (lsr1 : Array Slot) (str1 : List Value), mv_Rl D s bs base ι1 c'.1 h' H1 locs1 (mv_m y).2.2.1 lsr1 str1 ls' st' → (∀ j : Int, 0 ≤ j → j < c.1 → ι1 j = ι j) → W p l e R s m args below meth cd H1 locs1 (cells + (c'.2.1 - c.2.1)) (slots + (c'.2.2 - c.2.2)) Q (F0 m pc' lsr1 str1)) : W p l e R s m args below meth cd H locs cells slots Q (F0 m pc lsr str) := by
  obtain ⟨hx, hb, hml, hret, hlk, hown, hnm, hxt, hst0, hF⟩ := id X
  obtain ⟨ws, hP, hD, hS, hw, hl, hst⟩ := rel
  have hd := mv_dec hg
  simp only [mv_step] at hs
  split at hs
  · rename_i v hv
    split at hs
    · cases hs
      rename_i ht
      have K0 : ∀ lsr1 str1, mv_rl ι c.1 bs ls (mv_m y).2.2.1 lsr1 → mv_rs ι c.1 bs (v :: st) str1 → W p l e R s m args below meth cd H locs cells slots Q (F0 m (pc + 2) lsr1 str1) := fun lsr1 str1 r1 r2 => by
        have := K H locs ι lsr1 str1 ⟨ws, hP, hD, hS, hw, r1, r2⟩ (fun _ _ _ => rfl)
        simpa only [Nat.sub_self, Nat.add_zero] using this
      obtain ⟨x, hx1, hx2⟩ := mv_rl_at hl hv (by rcases ht with ht | ht <;> omega)
      obtain ⟨q, rfl⟩ := mv_rv_ref hx2 (by rcases ht with ht | ht <;> simp [ht])
      exact lv_aload hx hb hd hx1 (K0 _ _ hl ⟨hx2, hst⟩)
    · cases hs
  · cases hs
theorem mv_w_aload_n {c c' : mv_C} {h' : mv_H} {pc' : Nat} {ls' st' : List mv_V} {k : Fin 4} (X : mv_Cx p l m args meth cd y D bs base L xs s) (hg : mv_get (mv_m y).1 pc = some (.aload_n k, a)) (hs : mv_step ((L : Int), fun j => (xs j.toNat).toInt) pc (.aload_n k) a ls st c h = some (pc', ls', st', c', h'))
    (rel : mv_Rl D s bs base ι c.1 h H locs (mv_m y).2.2.1 lsr str ls st) (hcs : cells + (c'.2.1 - c.2.1) ≤ R.cells) (hss : slots + (c'.2.2 - c.2.2) ≤ R.slots)
    (K : ∀ (H1 : Heap) (locs1 : List Loc) (ι1 : Int → Nat) (lsr1 : Array Slot) (str1 : List Value), mv_Rl D s bs base ι1 c'.1 h' H1 locs1 (mv_m y).2.2.1 lsr1 str1 ls' st' → (∀ j : Int, 0 ≤ j → j < c.1 → ι1 j = ι j) → W p l e R s m args below meth cd H1 locs1 (cells + (c'.2.1 - c.2.1)) (slots + (c'.2.2 - c.2.2)) Q (F0 m pc' lsr1 str1)) : W p l e R s m args below meth cd H locs cells slots Q (F0 m pc lsr str) := by
  obtain ⟨hx, hb, hml, hret, hlk, hown, hnm, hxt, hst0, hF⟩ := id X
  obtain ⟨ws, hP, hD, hS, hw, hl, hst⟩ := rel
  have hd := mv_dec hg
  simp only [mv_step] at hs
  split at hs
  · rename_i v hv
    split at hs
    · cases hs
      rename_i ht
      have K0 : ∀ lsr1 str1, mv_rl ι c.1 bs ls (mv_m y).2.2.1 lsr1 → mv_rs ι c.1 bs (v :: st) str1 → W p l e R s m args below meth cd H locs cells slots Q (F0 m (pc + 1) lsr1 str1) := fun lsr1 str1 r1 r2 => by
        have := K H locs ι lsr1 str1 ⟨ws, hP, hD, hS, hw, r1, r2⟩ (fun _ _ _ => rfl)
        simpa only [Nat.sub_self, Nat.add_zero] using this
      obtain ⟨x, hx1, hx2⟩ := mv_rl_at hl hv (by rcases ht with ht | ht <;> omega)
      obtain ⟨q, rfl⟩ := mv_rv_ref hx2 (by rcases ht with ht | ht <;> simp [ht])
      exact lv_aload_n hx hb hd rfl hx1 (K0 _ _ hl ⟨hx2, hst⟩)
    · cases hs
  · cases hs
theorem mv_w_istore {c c' : mv_C} {h' : mv_H} {pc' : Nat} {ls' st' : List mv_V} {k : Nat} (X : mv_Cx p l m args meth cd y D bs base L xs s) (hg : mv_get (mv_m y).1 pc = some (.istore k, a)) (hs : mv_step ((L : Int), fun j => (xs j.toNat).toInt) pc (.istore k) a ls st c h = some (pc', ls', st', c', h'))
    (rel : mv_Rl D s bs base ι c.1 h H locs (mv_m y).2.2.1 lsr str ls st) (hcs : cells + (c'.2.1 - c.2.1) ≤ R.cells) (hss : slots + (c'.2.2 - c.2.2) ≤ R.slots)
    (K : ∀ (H1 : Heap) (locs1 : List Loc) (ι1 : Int → Nat) (lsr1 : Array Slot) (str1 : List Value), mv_Rl D s bs base ι1 c'.1 h' H1 locs1 (mv_m y).2.2.1 lsr1 str1 ls' st' → (∀ j : Int, 0 ≤ j → j < c.1 → ι1 j = ι j) → W p l e R s m args below meth cd H1 locs1 (cells + (c'.2.1 - c.2.1)) (slots + (c'.2.2 - c.2.2)) Q (F0 m pc' lsr1 str1)) : W p l e R s m args below meth cd H locs cells slots Q (F0 m pc lsr str) := by
  obtain ⟨hx, hb, hml, hret, hlk, hown, hnm, hxt, hst0, hF⟩ := id X
  obtain ⟨ws, hP, hD, hS, hw, hl, hst⟩ := rel
  have hd := mv_dec hg
  simp only [mv_step] at hs
  split at hs
  · rename_i z r
    obtain ⟨l1, h1, h2⟩ := Option.map_eq_some_iff.mp hs
    cases h2
    obtain ⟨q, rfl, hq⟩ := mv_rs_i hst
    obtain ⟨hll, lv, hlv, hlr⟩ := hl
    have hk := (mv_s1_spec h1).1
    have K0 : ∀ lsr1 str1, mv_rl ι c.1 bs ls' (mv_m y).2.2.1 lsr1 → mv_rs ι c.1 bs st' str1 → W p l e R s m args below meth cd H locs cells slots Q (F0 m (pc + 2) lsr1 str1) := fun lsr1 str1 r1 r2 => by
      have := K H locs ι lsr1 str1 ⟨ws, hP, hD, hS, hw, r1, r2⟩ (fun _ _ _ => rfl)
      simpa only [Nat.sub_self, Nat.add_zero] using this
    exact lv_istore (lv := lv) (nL := (mv_m y).2.2.1) hx hb hd hlv (by rw [← hll]; exact hk) rfl (fun ls1 hl1 => K0 _ _ (mv_st1 hll hlr h1 rfl hl1) hq)
  · cases hs
theorem mv_w_istore_n {c c' : mv_C} {h' : mv_H} {pc' : Nat} {ls' st' : List mv_V} {k : Fin 4} (X : mv_Cx p l m args meth cd y D bs base L xs s) (hg : mv_get (mv_m y).1 pc = some (.istore_n k, a)) (hs : mv_step ((L : Int), fun j => (xs j.toNat).toInt) pc (.istore_n k) a ls st c h = some (pc', ls', st', c', h'))
    (rel : mv_Rl D s bs base ι c.1 h H locs (mv_m y).2.2.1 lsr str ls st) (hcs : cells + (c'.2.1 - c.2.1) ≤ R.cells) (hss : slots + (c'.2.2 - c.2.2) ≤ R.slots)
    (K : ∀ (H1 : Heap) (locs1 : List Loc) (ι1 : Int → Nat) (lsr1 : Array Slot) (str1 : List Value), mv_Rl D s bs base ι1 c'.1 h' H1 locs1 (mv_m y).2.2.1 lsr1 str1 ls' st' → (∀ j : Int, 0 ≤ j → j < c.1 → ι1 j = ι j) → W p l e R s m args below meth cd H1 locs1 (cells + (c'.2.1 - c.2.1)) (slots + (c'.2.2 - c.2.2)) Q (F0 m pc' lsr1 str1)) : W p l e R s m args below meth cd H locs cells slots Q (F0 m pc lsr str) := by
  obtain ⟨hx, hb, hml, hret, hlk, hown, hnm, hxt, hst0, hF⟩ := id X
  obtain ⟨ws, hP, hD, hS, hw, hl, hst⟩ := rel
  have hd := mv_dec hg
  simp only [mv_step] at hs
  split at hs
  · rename_i z r
    obtain ⟨l1, h1, h2⟩ := Option.map_eq_some_iff.mp hs
    cases h2
    obtain ⟨q, rfl, hq⟩ := mv_rs_i hst
    obtain ⟨hll, lv, hlv, hlr⟩ := hl
    have hk := (mv_s1_spec h1).1
    have K0 : ∀ lsr1 str1, mv_rl ι c.1 bs ls' (mv_m y).2.2.1 lsr1 → mv_rs ι c.1 bs st' str1 → W p l e R s m args below meth cd H locs cells slots Q (F0 m (pc + 1) lsr1 str1) := fun lsr1 str1 r1 r2 => by
      have := K H locs ι lsr1 str1 ⟨ws, hP, hD, hS, hw, r1, r2⟩ (fun _ _ _ => rfl)
      simpa only [Nat.sub_self, Nat.add_zero] using this
    exact lv_istore_n (lv := lv) (nL := (mv_m y).2.2.1) hx hb hd rfl hlv (by rw [← hll]; exact hk) rfl (fun ls1 hl1 => K0 _ _ (mv_st1 hll hlr h1 rfl hl1) hq)
  · cases hs
theorem mv_w_lstore {c c' : mv_C} {h' : mv_H} {pc' : Nat} {ls' st' : List mv_V} {k : Nat} (X : mv_Cx p l m args meth cd y D bs base L xs s) (hg : mv_get (mv_m y).1 pc = some (.lstore k, a)) (hs : mv_step ((L : Int), fun j => (xs j.toNat).toInt) pc (.lstore k) a ls st c h = some (pc', ls', st', c', h'))
    (rel : mv_Rl D s bs base ι c.1 h H locs (mv_m y).2.2.1 lsr str ls st) (hcs : cells + (c'.2.1 - c.2.1) ≤ R.cells) (hss : slots + (c'.2.2 - c.2.2) ≤ R.slots)
    (K : ∀ (H1 : Heap) (locs1 : List Loc) (ι1 : Int → Nat) (lsr1 : Array Slot) (str1 : List Value), mv_Rl D s bs base ι1 c'.1 h' H1 locs1 (mv_m y).2.2.1 lsr1 str1 ls' st' → (∀ j : Int, 0 ≤ j → j < c.1 → ι1 j = ι j) → W p l e R s m args below meth cd H1 locs1 (cells + (c'.2.1 - c.2.1)) (slots + (c'.2.2 - c.2.2)) Q (F0 m pc' lsr1 str1)) : W p l e R s m args below meth cd H locs cells slots Q (F0 m pc lsr str) := by
  obtain ⟨hx, hb, hml, hret, hlk, hown, hnm, hxt, hst0, hF⟩ := id X
  obtain ⟨ws, hP, hD, hS, hw, hl, hst⟩ := rel
  have hd := mv_dec hg
  simp only [mv_step] at hs
  split at hs
  · rename_i z r
    obtain ⟨l1, h1, h2⟩ := Option.map_eq_some_iff.mp hs
    cases h2
    obtain ⟨q, rfl, hq⟩ := mv_rs_j hst
    obtain ⟨hll, lv, hlv, hlr⟩ := hl
    have hk := (mv_s2_spec h1).1
    have K0 : ∀ lsr1 str1, mv_rl ι c.1 bs ls' (mv_m y).2.2.1 lsr1 → mv_rs ι c.1 bs st' str1 → W p l e R s m args below meth cd H locs cells slots Q (F0 m (pc + 2) lsr1 str1) := fun lsr1 str1 r1 r2 => by
      have := K H locs ι lsr1 str1 ⟨ws, hP, hD, hS, hw, r1, r2⟩ (fun _ _ _ => rfl)
      simpa only [Nat.sub_self, Nat.add_zero] using this
    exact lv_lstore (lv := lv) (nL := (mv_m y).2.2.1) hx hb hd hlv (by rw [← hll]; exact hk) rfl (fun ls1 hl1 => K0 _ _ (mv_st2 hll hlr h1 rfl hl1) hq)
  · cases hs
theorem mv_w_lstore_n {c c' : mv_C} {h' : mv_H} {pc' : Nat} {ls' st' : List mv_V} {k : Fin 4} (X : mv_Cx p l m args meth cd y D bs base L xs s) (hg : mv_get (mv_m y).1 pc = some (.lstore_n k, a)) (hs : mv_step ((L : Int), fun j => (xs j.toNat).toInt) pc (.lstore_n k) a ls st c h = some (pc', ls', st', c', h'))
    (rel : mv_Rl D s bs base ι c.1 h H locs (mv_m y).2.2.1 lsr str ls st) (hcs : cells + (c'.2.1 - c.2.1) ≤ R.cells) (hss : slots + (c'.2.2 - c.2.2) ≤ R.slots)
    (K : ∀ (H1 : Heap) (locs1 : List Loc) (ι1 : Int → Nat) (lsr1 : Array Slot) (str1 : List Value), mv_Rl D s bs base ι1 c'.1 h' H1 locs1 (mv_m y).2.2.1 lsr1 str1 ls' st' → (∀ j : Int, 0 ≤ j → j < c.1 → ι1 j = ι j) → W p l e R s m args below meth cd H1 locs1 (cells + (c'.2.1 - c.2.1)) (slots + (c'.2.2 - c.2.2)) Q (F0 m pc' lsr1 str1)) : W p l e R s m args below meth cd H locs cells slots Q (F0 m pc lsr str) := by
  obtain ⟨hx, hb, hml, hret, hlk, hown, hnm, hxt, hst0, hF⟩ := id X
  obtain ⟨ws, hP, hD, hS, hw, hl, hst⟩ := rel
  have hd := mv_dec hg
  simp only [mv_step] at hs
  split at hs
  · rename_i z r
    obtain ⟨l1, h1, h2⟩ := Option.map_eq_some_iff.mp hs
    cases h2
    obtain ⟨q, rfl, hq⟩ := mv_rs_j hst
    obtain ⟨hll, lv, hlv, hlr⟩ := hl
    have hk := (mv_s2_spec h1).1
    have K0 : ∀ lsr1 str1, mv_rl ι c.1 bs ls' (mv_m y).2.2.1 lsr1 → mv_rs ι c.1 bs st' str1 → W p l e R s m args below meth cd H locs cells slots Q (F0 m (pc + 1) lsr1 str1) := fun lsr1 str1 r1 r2 => by
      have := K H locs ι lsr1 str1 ⟨ws, hP, hD, hS, hw, r1, r2⟩ (fun _ _ _ => rfl)
      simpa only [Nat.sub_self, Nat.add_zero] using this
    exact lv_lstore_n (lv := lv) (nL := (mv_m y).2.2.1) hx hb hd rfl hlv (by rw [← hll]; exact hk) rfl (fun ls1 hl1 => K0 _ _ (mv_st2 hll hlr h1 rfl hl1) hq)
  · cases hs
theorem mv_w_astore {c c' : mv_C} {h' : mv_H} {pc' : Nat} {ls' st' : List mv_V} {k : Nat} (X : mv_Cx p l m args meth cd y D bs base L xs s) (hg : mv_get (mv_m y).1 pc = some (.astore k, a)) (hs : mv_step ((L : Int), fun j => (xs j.toNat).toInt) pc (.astore k) a ls st c h = some (pc', ls', st', c', h'))
    (rel : mv_Rl D s bs base ι c.1 h H locs (mv_m y).2.2.1 lsr str ls st) (hcs : cells + (c'.2.1 - c.2.1) ≤ R.cells) (hss : slots + (c'.2.2 - c.2.2) ≤ R.slots)
    (K : ∀ (H1 : Heap) (locs1 : List Loc) (ι1 : Int → Nat) (lsr1 : Array Slot) (str1 : List Value), mv_Rl D s bs base ι1 c'.1 h' H1 locs1 (mv_m y).2.2.1 lsr1 str1 ls' st' → (∀ j : Int, 0 ≤ j → j < c.1 → ι1 j = ι j) → W p l e R s m args below meth cd H1 locs1 (cells + (c'.2.1 - c.2.1)) (slots + (c'.2.2 - c.2.2)) Q (F0 m pc' lsr1 str1)) : W p l e R s m args below meth cd H locs cells slots Q (F0 m pc lsr str) := by
  obtain ⟨hx, hb, hml, hret, hlk, hown, hnm, hxt, hst0, hF⟩ := id X
  obtain ⟨ws, hP, hD, hS, hw, hl, hst⟩ := rel
  have hd := mv_dec hg
  simp only [mv_step] at hs
  split at hs
  · rename_i v r
    split at hs
    · rename_i ht
      obtain ⟨l1, h1, h2⟩ := Option.map_eq_some_iff.mp hs
      cases h2
      obtain ⟨x, q, rfl, hx2, hq⟩ := mv_rs_c hst
      obtain ⟨x1, rfl⟩ := mv_rv_ref hx2 (by rcases ht with ht | ht <;> simp [ht])
      obtain ⟨hll, lv, hlv, hlr⟩ := hl
      have hk := (mv_s1_spec h1).1
      have K0 : ∀ lsr1 str1, mv_rl ι c.1 bs ls' (mv_m y).2.2.1 lsr1 → mv_rs ι c.1 bs st' str1 → W p l e R s m args below meth cd H locs cells slots Q (F0 m (pc + 2) lsr1 str1) := fun lsr1 str1 r1 r2 => by
        have := K H locs ι lsr1 str1 ⟨ws, hP, hD, hS, hw, r1, r2⟩ (fun _ _ _ => rfl)
        simpa only [Nat.sub_self, Nat.add_zero] using this
      exact lv_astore (lv := lv) (nL := (mv_m y).2.2.1) hx hb hd hlv (by rw [← hll]; exact hk) rfl (fun ls1 hl1 => K0 _ _ (mv_st1 hll hlr h1 hx2 hl1) hq)
    · cases hs
  · cases hs
theorem mv_w_astore_n {c c' : mv_C} {h' : mv_H} {pc' : Nat} {ls' st' : List mv_V} {k : Fin 4} (X : mv_Cx p l m args meth cd y D bs base L xs s) (hg : mv_get (mv_m y).1 pc = some (.astore_n k, a)) (hs : mv_step ((L : Int), fun j => (xs j.toNat).toInt) pc (.astore_n k) a ls st c h = some (pc', ls', st', c', h'))
    (rel : mv_Rl D s bs base ι c.1 h H locs (mv_m y).2.2.1 lsr str ls st) (hcs : cells + (c'.2.1 - c.2.1) ≤ R.cells) (hss : slots + (c'.2.2 - c.2.2) ≤ R.slots)
    (K : ∀ (H1 : Heap) (locs1 : List Loc) (ι1 : Int → Nat) (lsr1 : Array Slot) (str1 : List Value), mv_Rl D s bs base ι1 c'.1 h' H1 locs1 (mv_m y).2.2.1 lsr1 str1 ls' st' → (∀ j : Int, 0 ≤ j → j < c.1 → ι1 j = ι j) → W p l e R s m args below meth cd H1 locs1 (cells + (c'.2.1 - c.2.1)) (slots + (c'.2.2 - c.2.2)) Q (F0 m pc' lsr1 str1)) : W p l e R s m args below meth cd H locs cells slots Q (F0 m pc lsr str) := by
  obtain ⟨hx, hb, hml, hret, hlk, hown, hnm, hxt, hst0, hF⟩ := id X
  obtain ⟨ws, hP, hD, hS, hw, hl, hst⟩ := rel
  have hd := mv_dec hg
  simp only [mv_step] at hs
  split at hs
  · rename_i v r
    split at hs
    · rename_i ht
      obtain ⟨l1, h1, h2⟩ := Option.map_eq_some_iff.mp hs
      cases h2
      obtain ⟨x, q, rfl, hx2, hq⟩ := mv_rs_c hst
      obtain ⟨x1, rfl⟩ := mv_rv_ref hx2 (by rcases ht with ht | ht <;> simp [ht])
      obtain ⟨hll, lv, hlv, hlr⟩ := hl
      have hk := (mv_s1_spec h1).1
      have K0 : ∀ lsr1 str1, mv_rl ι c.1 bs ls' (mv_m y).2.2.1 lsr1 → mv_rs ι c.1 bs st' str1 → W p l e R s m args below meth cd H locs cells slots Q (F0 m (pc + 1) lsr1 str1) := fun lsr1 str1 r1 r2 => by
        have := K H locs ι lsr1 str1 ⟨ws, hP, hD, hS, hw, r1, r2⟩ (fun _ _ _ => rfl)
        simpa only [Nat.sub_self, Nat.add_zero] using this
      exact lv_astore_n (lv := lv) (nL := (mv_m y).2.2.1) hx hb hd rfl hlv (by rw [← hll]; exact hk) rfl (fun ls1 hl1 => K0 _ _ (mv_st1 hll hlr h1 hx2 hl1) hq)
    · cases hs
  · cases hs
theorem mv_w_iinc {c c' : mv_C} {h' : mv_H} {pc' : Nat} {ls' st' : List mv_V} {k : Nat} {d : Int} (X : mv_Cx p l m args meth cd y D bs base L xs s) (hg : mv_get (mv_m y).1 pc = some (.iinc k d, a)) (hs : mv_step ((L : Int), fun j => (xs j.toNat).toInt) pc (.iinc k d) a ls st c h = some (pc', ls', st', c', h'))
    (rel : mv_Rl D s bs base ι c.1 h H locs (mv_m y).2.2.1 lsr str ls st) (hcs : cells + (c'.2.1 - c.2.1) ≤ R.cells) (hss : slots + (c'.2.2 - c.2.2) ≤ R.slots)
    (K : ∀ (H1 : Heap) (locs1 : List Loc) (ι1 : Int → Nat) (lsr1 : Array Slot) (str1 : List Value), mv_Rl D s bs base ι1 c'.1 h' H1 locs1 (mv_m y).2.2.1 lsr1 str1 ls' st' → (∀ j : Int, 0 ≤ j → j < c.1 → ι1 j = ι j) → W p l e R s m args below meth cd H1 locs1 (cells + (c'.2.1 - c.2.1)) (slots + (c'.2.2 - c.2.2)) Q (F0 m pc' lsr1 str1)) : W p l e R s m args below meth cd H locs cells slots Q (F0 m pc lsr str) := by
  obtain ⟨hx, hb, hml, hret, hlk, hown, hnm, hxt, hst0, hF⟩ := id X
  obtain ⟨ws, hP, hD, hS, hw, hl, hst⟩ := rel
  have hd := mv_dec hg
  simp only [mv_step] at hs
  split at hs
  · rename_i z hz
    obtain ⟨l1, h1, h2⟩ := Option.map_eq_some_iff.mp hs
    cases h2
    obtain ⟨hll, lv, hlv, hlr⟩ := hl
    obtain ⟨x, hxm, hxr⟩ := hlr k _ hz (by simp)
    cases hxr
    obtain ⟨k9, hk9⟩ := List.getElem?_of_mem hxm
    have hk := (mv_s1_spec h1).1
    have K0 : ∀ lsr1 str1, mv_rl ι c.1 bs ls' (mv_m y).2.2.1 lsr1 → mv_rs ι c.1 bs st str1 → W p l e R s m args below meth cd H locs cells slots Q (F0 m (pc + 3) lsr1 str1) := fun lsr1 str1 r1 r2 => by
      have := K H locs ι lsr1 str1 ⟨ws, hP, hD, hS, hw, r1, r2⟩ (fun _ _ _ => rfl)
      simpa only [Nat.sub_self, Nat.add_zero] using this
    exact lv_iinc (lv := lv) (nL := (mv_m y).2.2.1) hx hb hd hlv (k := k9) hk9 (Int32.ofInt_add z d).symm (by rw [← hll]; exact hk) rfl (fun ls1 hl1 => K0 _ _ (mv_st1 hll hlr h1 rfl hl1) hst)
  · cases hs
theorem mv_w_iadd {c c' : mv_C} {h' : mv_H} {pc' : Nat} {ls' st' : List mv_V}  (X : mv_Cx p l m args meth cd y D bs base L xs s) (hg : mv_get (mv_m y).1 pc = some (.iadd, a)) (hs : mv_step ((L : Int), fun j => (xs j.toNat).toInt) pc (.iadd) a ls st c h = some (pc', ls', st', c', h'))
    (rel : mv_Rl D s bs base ι c.1 h H locs (mv_m y).2.2.1 lsr str ls st) (hcs : cells + (c'.2.1 - c.2.1) ≤ R.cells) (hss : slots + (c'.2.2 - c.2.2) ≤ R.slots)
    (K : ∀ (H1 : Heap) (locs1 : List Loc) (ι1 : Int → Nat) (lsr1 : Array Slot) (str1 : List Value), mv_Rl D s bs base ι1 c'.1 h' H1 locs1 (mv_m y).2.2.1 lsr1 str1 ls' st' → (∀ j : Int, 0 ≤ j → j < c.1 → ι1 j = ι j) → W p l e R s m args below meth cd H1 locs1 (cells + (c'.2.1 - c.2.1)) (slots + (c'.2.2 - c.2.2)) Q (F0 m pc' lsr1 str1)) : W p l e R s m args below meth cd H locs cells slots Q (F0 m pc lsr str) := by
  obtain ⟨hx, hb, hml, hret, hlk, hown, hnm, hxt, hst0, hF⟩ := id X
  obtain ⟨ws, hP, hD, hS, hw, hl, hst⟩ := rel
  have hd := mv_dec hg
  simp only [mv_step] at hs
  obtain ⟨x1, x2, r, rfl, hs9⟩ := mv_b2_spec hs
  obtain ⟨q1, rfl, hst1⟩ := mv_rs_i hst
  obtain ⟨q2, rfl, hst2⟩ := mv_rs_i hst1
  cases hs9
  have K0 : ∀ lsr1 str1, mv_rl ι c.1 bs ls (mv_m y).2.2.1 lsr1 → mv_rs ι c.1 bs (((0 : Nat), x1 + x2) :: r) str1 → W p l e R s m args below meth cd H locs cells slots Q (F0 m (pc + 1) lsr1 str1) := fun lsr1 str1 r1 r2 => by
    have := K H locs ι lsr1 str1 ⟨ws, hP, hD, hS, hw, r1, r2⟩ (fun _ _ _ => rfl)
    simpa only [Nat.sub_self, Nat.add_zero] using this
  refine lv_iadd hx hb hd ?_
  exact K0 _ _ hl ⟨by show Value.int _ = Value.int _; rw [Int32.ofInt_add], hst2⟩
theorem mv_w_isub {c c' : mv_C} {h' : mv_H} {pc' : Nat} {ls' st' : List mv_V}  (X : mv_Cx p l m args meth cd y D bs base L xs s) (hg : mv_get (mv_m y).1 pc = some (.isub, a)) (hs : mv_step ((L : Int), fun j => (xs j.toNat).toInt) pc (.isub) a ls st c h = some (pc', ls', st', c', h'))
    (rel : mv_Rl D s bs base ι c.1 h H locs (mv_m y).2.2.1 lsr str ls st) (hcs : cells + (c'.2.1 - c.2.1) ≤ R.cells) (hss : slots + (c'.2.2 - c.2.2) ≤ R.slots)
    (K : ∀ (H1 : Heap) (locs1 : List Loc) (ι1 : Int → Nat) (lsr1 : Array Slot) (str1 : List Value), mv_Rl D s bs base ι1 c'.1 h' H1 locs1 (mv_m y).2.2.1 lsr1 str1 ls' st' → (∀ j : Int, 0 ≤ j → j < c.1 → ι1 j = ι j) → W p l e R s m args below meth cd H1 locs1 (cells + (c'.2.1 - c.2.1)) (slots + (c'.2.2 - c.2.2)) Q (F0 m pc' lsr1 str1)) : W p l e R s m args below meth cd H locs cells slots Q (F0 m pc lsr str) := by
  obtain ⟨hx, hb, hml, hret, hlk, hown, hnm, hxt, hst0, hF⟩ := id X
  obtain ⟨ws, hP, hD, hS, hw, hl, hst⟩ := rel
  have hd := mv_dec hg
  simp only [mv_step] at hs
  obtain ⟨x1, x2, r, rfl, hs9⟩ := mv_b2_spec hs
  obtain ⟨q1, rfl, hst1⟩ := mv_rs_i hst
  obtain ⟨q2, rfl, hst2⟩ := mv_rs_i hst1
  cases hs9
  have K0 : ∀ lsr1 str1, mv_rl ι c.1 bs ls (mv_m y).2.2.1 lsr1 → mv_rs ι c.1 bs (((0 : Nat), x1 - x2) :: r) str1 → W p l e R s m args below meth cd H locs cells slots Q (F0 m (pc + 1) lsr1 str1) := fun lsr1 str1 r1 r2 => by
    have := K H locs ι lsr1 str1 ⟨ws, hP, hD, hS, hw, r1, r2⟩ (fun _ _ _ => rfl)
    simpa only [Nat.sub_self, Nat.add_zero] using this
  refine lv_isub hx hb hd ?_
  exact K0 _ _ hl ⟨by show Value.int _ = Value.int _; rw [Int32.ofInt_sub], hst2⟩
theorem mv_w_imul {c c' : mv_C} {h' : mv_H} {pc' : Nat} {ls' st' : List mv_V}  (X : mv_Cx p l m args meth cd y D bs base L xs s) (hg : mv_get (mv_m y).1 pc = some (.imul, a)) (hs : mv_step ((L : Int), fun j => (xs j.toNat).toInt) pc (.imul) a ls st c h = some (pc', ls', st', c', h'))
    (rel : mv_Rl D s bs base ι c.1 h H locs (mv_m y).2.2.1 lsr str ls st) (hcs : cells + (c'.2.1 - c.2.1) ≤ R.cells) (hss : slots + (c'.2.2 - c.2.2) ≤ R.slots)
    (K : ∀ (H1 : Heap) (locs1 : List Loc) (ι1 : Int → Nat) (lsr1 : Array Slot) (str1 : List Value), mv_Rl D s bs base ι1 c'.1 h' H1 locs1 (mv_m y).2.2.1 lsr1 str1 ls' st' → (∀ j : Int, 0 ≤ j → j < c.1 → ι1 j = ι j) → W p l e R s m args below meth cd H1 locs1 (cells + (c'.2.1 - c.2.1)) (slots + (c'.2.2 - c.2.2)) Q (F0 m pc' lsr1 str1)) : W p l e R s m args below meth cd H locs cells slots Q (F0 m pc lsr str) := by
  obtain ⟨hx, hb, hml, hret, hlk, hown, hnm, hxt, hst0, hF⟩ := id X
  obtain ⟨ws, hP, hD, hS, hw, hl, hst⟩ := rel
  have hd := mv_dec hg
  simp only [mv_step] at hs
  obtain ⟨x1, x2, r, rfl, hs9⟩ := mv_b2_spec hs
  obtain ⟨q1, rfl, hst1⟩ := mv_rs_i hst
  obtain ⟨q2, rfl, hst2⟩ := mv_rs_i hst1
  cases hs9
  have K0 : ∀ lsr1 str1, mv_rl ι c.1 bs ls (mv_m y).2.2.1 lsr1 → mv_rs ι c.1 bs (((0 : Nat), x1 * x2) :: r) str1 → W p l e R s m args below meth cd H locs cells slots Q (F0 m (pc + 1) lsr1 str1) := fun lsr1 str1 r1 r2 => by
    have := K H locs ι lsr1 str1 ⟨ws, hP, hD, hS, hw, r1, r2⟩ (fun _ _ _ => rfl)
    simpa only [Nat.sub_self, Nat.add_zero] using this
  refine lv_imul hx hb hd ?_
  exact K0 _ _ hl ⟨by show Value.int _ = Value.int _; rw [Int32.ofInt_mul], hst2⟩
theorem mv_w_ladd {c c' : mv_C} {h' : mv_H} {pc' : Nat} {ls' st' : List mv_V}  (X : mv_Cx p l m args meth cd y D bs base L xs s) (hg : mv_get (mv_m y).1 pc = some (.ladd, a)) (hs : mv_step ((L : Int), fun j => (xs j.toNat).toInt) pc (.ladd) a ls st c h = some (pc', ls', st', c', h'))
    (rel : mv_Rl D s bs base ι c.1 h H locs (mv_m y).2.2.1 lsr str ls st) (hcs : cells + (c'.2.1 - c.2.1) ≤ R.cells) (hss : slots + (c'.2.2 - c.2.2) ≤ R.slots)
    (K : ∀ (H1 : Heap) (locs1 : List Loc) (ι1 : Int → Nat) (lsr1 : Array Slot) (str1 : List Value), mv_Rl D s bs base ι1 c'.1 h' H1 locs1 (mv_m y).2.2.1 lsr1 str1 ls' st' → (∀ j : Int, 0 ≤ j → j < c.1 → ι1 j = ι j) → W p l e R s m args below meth cd H1 locs1 (cells + (c'.2.1 - c.2.1)) (slots + (c'.2.2 - c.2.2)) Q (F0 m pc' lsr1 str1)) : W p l e R s m args below meth cd H locs cells slots Q (F0 m pc lsr str) := by
  obtain ⟨hx, hb, hml, hret, hlk, hown, hnm, hxt, hst0, hF⟩ := id X
  obtain ⟨ws, hP, hD, hS, hw, hl, hst⟩ := rel
  have hd := mv_dec hg
  simp only [mv_step] at hs
  obtain ⟨x1, x2, r, rfl, hs9⟩ := mv_j2_spec hs
  obtain ⟨q1, rfl, hst1⟩ := mv_rs_j hst
  obtain ⟨q2, rfl, hst2⟩ := mv_rs_j hst1
  cases hs9
  have K0 : ∀ lsr1 str1, mv_rl ι c.1 bs ls (mv_m y).2.2.1 lsr1 → mv_rs ι c.1 bs (((1 : Nat), x1 + x2) :: r) str1 → W p l e R s m args below meth cd H locs cells slots Q (F0 m (pc + 1) lsr1 str1) := fun lsr1 str1 r1 r2 => by
    have := K H locs ι lsr1 str1 ⟨ws, hP, hD, hS, hw, r1, r2⟩ (fun _ _ _ => rfl)
    simpa only [Nat.sub_self, Nat.add_zero] using this
  refine lv_ladd hx hb hd ?_
  exact K0 _ _ hl ⟨by show Value.long _ = Value.long _; rw [Int64.ofInt_add], hst2⟩
theorem mv_w_lsub {c c' : mv_C} {h' : mv_H} {pc' : Nat} {ls' st' : List mv_V}  (X : mv_Cx p l m args meth cd y D bs base L xs s) (hg : mv_get (mv_m y).1 pc = some (.lsub, a)) (hs : mv_step ((L : Int), fun j => (xs j.toNat).toInt) pc (.lsub) a ls st c h = some (pc', ls', st', c', h'))
    (rel : mv_Rl D s bs base ι c.1 h H locs (mv_m y).2.2.1 lsr str ls st) (hcs : cells + (c'.2.1 - c.2.1) ≤ R.cells) (hss : slots + (c'.2.2 - c.2.2) ≤ R.slots)
    (K : ∀ (H1 : Heap) (locs1 : List Loc) (ι1 : Int → Nat) (lsr1 : Array Slot) (str1 : List Value), mv_Rl D s bs base ι1 c'.1 h' H1 locs1 (mv_m y).2.2.1 lsr1 str1 ls' st' → (∀ j : Int, 0 ≤ j → j < c.1 → ι1 j = ι j) → W p l e R s m args below meth cd H1 locs1 (cells + (c'.2.1 - c.2.1)) (slots + (c'.2.2 - c.2.2)) Q (F0 m pc' lsr1 str1)) : W p l e R s m args below meth cd H locs cells slots Q (F0 m pc lsr str) := by
  obtain ⟨hx, hb, hml, hret, hlk, hown, hnm, hxt, hst0, hF⟩ := id X
  obtain ⟨ws, hP, hD, hS, hw, hl, hst⟩ := rel
  have hd := mv_dec hg
  simp only [mv_step] at hs
  obtain ⟨x1, x2, r, rfl, hs9⟩ := mv_j2_spec hs
  obtain ⟨q1, rfl, hst1⟩ := mv_rs_j hst
  obtain ⟨q2, rfl, hst2⟩ := mv_rs_j hst1
  cases hs9
  have K0 : ∀ lsr1 str1, mv_rl ι c.1 bs ls (mv_m y).2.2.1 lsr1 → mv_rs ι c.1 bs (((1 : Nat), x1 - x2) :: r) str1 → W p l e R s m args below meth cd H locs cells slots Q (F0 m (pc + 1) lsr1 str1) := fun lsr1 str1 r1 r2 => by
    have := K H locs ι lsr1 str1 ⟨ws, hP, hD, hS, hw, r1, r2⟩ (fun _ _ _ => rfl)
    simpa only [Nat.sub_self, Nat.add_zero] using this
  refine lv_lsub hx hb hd ?_
  exact K0 _ _ hl ⟨by show Value.long _ = Value.long _; rw [Int64.ofInt_sub], hst2⟩
theorem mv_w_lmul {c c' : mv_C} {h' : mv_H} {pc' : Nat} {ls' st' : List mv_V}  (X : mv_Cx p l m args meth cd y D bs base L xs s) (hg : mv_get (mv_m y).1 pc = some (.lmul, a)) (hs : mv_step ((L : Int), fun j => (xs j.toNat).toInt) pc (.lmul) a ls st c h = some (pc', ls', st', c', h'))
    (rel : mv_Rl D s bs base ι c.1 h H locs (mv_m y).2.2.1 lsr str ls st) (hcs : cells + (c'.2.1 - c.2.1) ≤ R.cells) (hss : slots + (c'.2.2 - c.2.2) ≤ R.slots)
    (K : ∀ (H1 : Heap) (locs1 : List Loc) (ι1 : Int → Nat) (lsr1 : Array Slot) (str1 : List Value), mv_Rl D s bs base ι1 c'.1 h' H1 locs1 (mv_m y).2.2.1 lsr1 str1 ls' st' → (∀ j : Int, 0 ≤ j → j < c.1 → ι1 j = ι j) → W p l e R s m args below meth cd H1 locs1 (cells + (c'.2.1 - c.2.1)) (slots + (c'.2.2 - c.2.2)) Q (F0 m pc' lsr1 str1)) : W p l e R s m args below meth cd H locs cells slots Q (F0 m pc lsr str) := by
  obtain ⟨hx, hb, hml, hret, hlk, hown, hnm, hxt, hst0, hF⟩ := id X
  obtain ⟨ws, hP, hD, hS, hw, hl, hst⟩ := rel
  have hd := mv_dec hg
  simp only [mv_step] at hs
  obtain ⟨x1, x2, r, rfl, hs9⟩ := mv_j2_spec hs
  obtain ⟨q1, rfl, hst1⟩ := mv_rs_j hst
  obtain ⟨q2, rfl, hst2⟩ := mv_rs_j hst1
  cases hs9
  have K0 : ∀ lsr1 str1, mv_rl ι c.1 bs ls (mv_m y).2.2.1 lsr1 → mv_rs ι c.1 bs (((1 : Nat), x1 * x2) :: r) str1 → W p l e R s m args below meth cd H locs cells slots Q (F0 m (pc + 1) lsr1 str1) := fun lsr1 str1 r1 r2 => by
    have := K H locs ι lsr1 str1 ⟨ws, hP, hD, hS, hw, r1, r2⟩ (fun _ _ _ => rfl)
    simpa only [Nat.sub_self, Nat.add_zero] using this
  refine lv_lmul hx hb hd ?_
  exact K0 _ _ hl ⟨by show Value.long _ = Value.long _; rw [Int64.ofInt_mul], hst2⟩
theorem mv_w_idiv {c c' : mv_C} {h' : mv_H} {pc' : Nat} {ls' st' : List mv_V}  (X : mv_Cx p l m args meth cd y D bs base L xs s) (hg : mv_get (mv_m y).1 pc = some (.idiv, a)) (hs : mv_step ((L : Int), fun j => (xs j.toNat).toInt) pc (.idiv) a ls st c h = some (pc', ls', st', c', h'))
    (rel : mv_Rl D s bs base ι c.1 h H locs (mv_m y).2.2.1 lsr str ls st) (hcs : cells + (c'.2.1 - c.2.1) ≤ R.cells) (hss : slots + (c'.2.2 - c.2.2) ≤ R.slots)
    (K : ∀ (H1 : Heap) (locs1 : List Loc) (ι1 : Int → Nat) (lsr1 : Array Slot) (str1 : List Value), mv_Rl D s bs base ι1 c'.1 h' H1 locs1 (mv_m y).2.2.1 lsr1 str1 ls' st' → (∀ j : Int, 0 ≤ j → j < c.1 → ι1 j = ι j) → W p l e R s m args below meth cd H1 locs1 (cells + (c'.2.1 - c.2.1)) (slots + (c'.2.2 - c.2.2)) Q (F0 m pc' lsr1 str1)) : W p l e R s m args below meth cd H locs cells slots Q (F0 m pc lsr str) := by
  obtain ⟨hx, hb, hml, hret, hlk, hown, hnm, hxt, hst0, hF⟩ := id X
  obtain ⟨ws, hP, hD, hS, hw, hl, hst⟩ := rel
  have hd := mv_dec hg
  simp only [mv_step] at hs
  obtain ⟨x1, x2, r, rfl, hs9⟩ := mv_b2_spec hs
  obtain ⟨q1, rfl, hst1⟩ := mv_rs_i hst
  obtain ⟨q2, rfl, hst2⟩ := mv_rs_i hst1
  split at hs9
  · cases hs9
    rename_i hr
    have K0 : ∀ lsr1 str1, mv_rl ι c.1 bs ls (mv_m y).2.2.1 lsr1 → mv_rs ι c.1 bs (((0 : Nat), x1.tdiv x2) :: r) str1 → W p l e R s m args below meth cd H locs cells slots Q (F0 m (pc + 1) lsr1 str1) := fun lsr1 str1 r1 r2 => by
      have := K H locs ι lsr1 str1 ⟨ws, hP, hD, hS, hw, r1, r2⟩ (fun _ _ _ => rfl)
      simpa only [Nat.sub_self, Nat.add_zero] using this
    refine lv_idiv hx hb hd (nu_nz hr.2.1 hr.2.2) ?_
    exact K0 _ _ hl ⟨by show Value.int _ = Value.int _; rw [nu_div hr.1 hr.2.1 hr.2.2], hst2⟩
  · cases hs9
theorem mv_w_irem {c c' : mv_C} {h' : mv_H} {pc' : Nat} {ls' st' : List mv_V}  (X : mv_Cx p l m args meth cd y D bs base L xs s) (hg : mv_get (mv_m y).1 pc = some (.irem, a)) (hs : mv_step ((L : Int), fun j => (xs j.toNat).toInt) pc (.irem) a ls st c h = some (pc', ls', st', c', h'))
    (rel : mv_Rl D s bs base ι c.1 h H locs (mv_m y).2.2.1 lsr str ls st) (hcs : cells + (c'.2.1 - c.2.1) ≤ R.cells) (hss : slots + (c'.2.2 - c.2.2) ≤ R.slots)
    (K : ∀ (H1 : Heap) (locs1 : List Loc) (ι1 : Int → Nat) (lsr1 : Array Slot) (str1 : List Value), mv_Rl D s bs base ι1 c'.1 h' H1 locs1 (mv_m y).2.2.1 lsr1 str1 ls' st' → (∀ j : Int, 0 ≤ j → j < c.1 → ι1 j = ι j) → W p l e R s m args below meth cd H1 locs1 (cells + (c'.2.1 - c.2.1)) (slots + (c'.2.2 - c.2.2)) Q (F0 m pc' lsr1 str1)) : W p l e R s m args below meth cd H locs cells slots Q (F0 m pc lsr str) := by
  obtain ⟨hx, hb, hml, hret, hlk, hown, hnm, hxt, hst0, hF⟩ := id X
  obtain ⟨ws, hP, hD, hS, hw, hl, hst⟩ := rel
  have hd := mv_dec hg
  simp only [mv_step] at hs
  obtain ⟨x1, x2, r, rfl, hs9⟩ := mv_b2_spec hs
  obtain ⟨q1, rfl, hst1⟩ := mv_rs_i hst
  obtain ⟨q2, rfl, hst2⟩ := mv_rs_i hst1
  split at hs9
  · cases hs9
    rename_i hr
    have K0 : ∀ lsr1 str1, mv_rl ι c.1 bs ls (mv_m y).2.2.1 lsr1 → mv_rs ι c.1 bs (((0 : Nat), x1.tmod x2) :: r) str1 → W p l e R s m args below meth cd H locs cells slots Q (F0 m (pc + 1) lsr1 str1) := fun lsr1 str1 r1 r2 => by
      have := K H locs ι lsr1 str1 ⟨ws, hP, hD, hS, hw, r1, r2⟩ (fun _ _ _ => rfl)
      simpa only [Nat.sub_self, Nat.add_zero] using this
    refine lv_irem hx hb hd (nu_nz hr.2.1 hr.2.2) ?_
    exact K0 _ _ hl ⟨by show Value.int _ = Value.int _; rw [nu_rem hr.1 hr.2.1 hr.2.2], hst2⟩
  · cases hs9
theorem mv_w_ldiv {c c' : mv_C} {h' : mv_H} {pc' : Nat} {ls' st' : List mv_V}  (X : mv_Cx p l m args meth cd y D bs base L xs s) (hg : mv_get (mv_m y).1 pc = some (.ldiv, a)) (hs : mv_step ((L : Int), fun j => (xs j.toNat).toInt) pc (.ldiv) a ls st c h = some (pc', ls', st', c', h'))
    (rel : mv_Rl D s bs base ι c.1 h H locs (mv_m y).2.2.1 lsr str ls st) (hcs : cells + (c'.2.1 - c.2.1) ≤ R.cells) (hss : slots + (c'.2.2 - c.2.2) ≤ R.slots)
    (K : ∀ (H1 : Heap) (locs1 : List Loc) (ι1 : Int → Nat) (lsr1 : Array Slot) (str1 : List Value), mv_Rl D s bs base ι1 c'.1 h' H1 locs1 (mv_m y).2.2.1 lsr1 str1 ls' st' → (∀ j : Int, 0 ≤ j → j < c.1 → ι1 j = ι j) → W p l e R s m args below meth cd H1 locs1 (cells + (c'.2.1 - c.2.1)) (slots + (c'.2.2 - c.2.2)) Q (F0 m pc' lsr1 str1)) : W p l e R s m args below meth cd H locs cells slots Q (F0 m pc lsr str) := by
  obtain ⟨hx, hb, hml, hret, hlk, hown, hnm, hxt, hst0, hF⟩ := id X
  obtain ⟨ws, hP, hD, hS, hw, hl, hst⟩ := rel
  have hd := mv_dec hg
  simp only [mv_step] at hs
  obtain ⟨x1, x2, r, rfl, hs9⟩ := mv_j2_spec hs
  obtain ⟨q1, rfl, hst1⟩ := mv_rs_j hst
  obtain ⟨q2, rfl, hst2⟩ := mv_rs_j hst1
  split at hs9
  · cases hs9
    rename_i hr
    have K0 : ∀ lsr1 str1, mv_rl ι c.1 bs ls (mv_m y).2.2.1 lsr1 → mv_rs ι c.1 bs (((1 : Nat), x1.tdiv x2) :: r) str1 → W p l e R s m args below meth cd H locs cells slots Q (F0 m (pc + 1) lsr1 str1) := fun lsr1 str1 r1 r2 => by
      have := K H locs ι lsr1 str1 ⟨ws, hP, hD, hS, hw, r1, r2⟩ (fun _ _ _ => rfl)
      simpa only [Nat.sub_self, Nat.add_zero] using this
    refine lv_ldiv hx hb hd (nu_nzl hr.2.1 hr.2.2) ?_
    exact K0 _ _ hl ⟨by show Value.long _ = Value.long _; rw [nu_divl hr.1 hr.2.1 hr.2.2], hst2⟩
  · cases hs9
theorem mv_w_lrem {c c' : mv_C} {h' : mv_H} {pc' : Nat} {ls' st' : List mv_V}  (X : mv_Cx p l m args meth cd y D bs base L xs s) (hg : mv_get (mv_m y).1 pc = some (.lrem, a)) (hs : mv_step ((L : Int), fun j => (xs j.toNat).toInt) pc (.lrem) a ls st c h = some (pc', ls', st', c', h'))
    (rel : mv_Rl D s bs base ι c.1 h H locs (mv_m y).2.2.1 lsr str ls st) (hcs : cells + (c'.2.1 - c.2.1) ≤ R.cells) (hss : slots + (c'.2.2 - c.2.2) ≤ R.slots)
    (K : ∀ (H1 : Heap) (locs1 : List Loc) (ι1 : Int → Nat) (lsr1 : Array Slot) (str1 : List Value), mv_Rl D s bs base ι1 c'.1 h' H1 locs1 (mv_m y).2.2.1 lsr1 str1 ls' st' → (∀ j : Int, 0 ≤ j → j < c.1 → ι1 j = ι j) → W p l e R s m args below meth cd H1 locs1 (cells + (c'.2.1 - c.2.1)) (slots + (c'.2.2 - c.2.2)) Q (F0 m pc' lsr1 str1)) : W p l e R s m args below meth cd H locs cells slots Q (F0 m pc lsr str) := by
  obtain ⟨hx, hb, hml, hret, hlk, hown, hnm, hxt, hst0, hF⟩ := id X
  obtain ⟨ws, hP, hD, hS, hw, hl, hst⟩ := rel
  have hd := mv_dec hg
  simp only [mv_step] at hs
  obtain ⟨x1, x2, r, rfl, hs9⟩ := mv_j2_spec hs
  obtain ⟨q1, rfl, hst1⟩ := mv_rs_j hst
  obtain ⟨q2, rfl, hst2⟩ := mv_rs_j hst1
  split at hs9
  · cases hs9
    rename_i hr
    have K0 : ∀ lsr1 str1, mv_rl ι c.1 bs ls (mv_m y).2.2.1 lsr1 → mv_rs ι c.1 bs (((1 : Nat), x1.tmod x2) :: r) str1 → W p l e R s m args below meth cd H locs cells slots Q (F0 m (pc + 1) lsr1 str1) := fun lsr1 str1 r1 r2 => by
      have := K H locs ι lsr1 str1 ⟨ws, hP, hD, hS, hw, r1, r2⟩ (fun _ _ _ => rfl)
      simpa only [Nat.sub_self, Nat.add_zero] using this
    refine lv_lrem hx hb hd (nu_nzl hr.2.1 hr.2.2) ?_
    exact K0 _ _ hl ⟨by show Value.long _ = Value.long _; rw [nu_reml hr.1 hr.2.1 hr.2.2], hst2⟩
  · cases hs9
theorem mv_w_ishl {c c' : mv_C} {h' : mv_H} {pc' : Nat} {ls' st' : List mv_V}  (X : mv_Cx p l m args meth cd y D bs base L xs s) (hg : mv_get (mv_m y).1 pc = some (.ishl, a)) (hs : mv_step ((L : Int), fun j => (xs j.toNat).toInt) pc (.ishl) a ls st c h = some (pc', ls', st', c', h'))
    (rel : mv_Rl D s bs base ι c.1 h H locs (mv_m y).2.2.1 lsr str ls st) (hcs : cells + (c'.2.1 - c.2.1) ≤ R.cells) (hss : slots + (c'.2.2 - c.2.2) ≤ R.slots)
    (K : ∀ (H1 : Heap) (locs1 : List Loc) (ι1 : Int → Nat) (lsr1 : Array Slot) (str1 : List Value), mv_Rl D s bs base ι1 c'.1 h' H1 locs1 (mv_m y).2.2.1 lsr1 str1 ls' st' → (∀ j : Int, 0 ≤ j → j < c.1 → ι1 j = ι j) → W p l e R s m args below meth cd H1 locs1 (cells + (c'.2.1 - c.2.1)) (slots + (c'.2.2 - c.2.2)) Q (F0 m pc' lsr1 str1)) : W p l e R s m args below meth cd H locs cells slots Q (F0 m pc lsr str) := by
  obtain ⟨hx, hb, hml, hret, hlk, hown, hnm, hxt, hst0, hF⟩ := id X
  obtain ⟨ws, hP, hD, hS, hw, hl, hst⟩ := rel
  have hd := mv_dec hg
  simp only [mv_step] at hs
  obtain ⟨x1, x2, r, rfl, hs9⟩ := mv_b2_spec hs
  obtain ⟨q1, rfl, hst1⟩ := mv_rs_i hst
  obtain ⟨q2, rfl, hst2⟩ := mv_rs_i hst1
  split at hs9
  · cases hs9
    rename_i hr
    have K0 : ∀ lsr1 str1, mv_rl ι c.1 bs ls (mv_m y).2.2.1 lsr1 → mv_rs ι c.1 bs (((0 : Nat), x1 * 2 ^ x2.toNat) :: r) str1 → W p l e R s m args below meth cd H locs cells slots Q (F0 m (pc + 1) lsr1 str1) := fun lsr1 str1 r1 r2 => by
      have := K H locs ι lsr1 str1 ⟨ws, hP, hD, hS, hw, r1, r2⟩ (fun _ _ _ => rfl)
      simpa only [Nat.sub_self, Nat.add_zero] using this
    refine lv_ishl hx hb hd ?_
    exact K0 _ _ hl ⟨by show Value.int _ = Value.int _; rw [nu_shl hr.1 hr.2], hst2⟩
  · cases hs9
theorem mv_w_ishr {c c' : mv_C} {h' : mv_H} {pc' : Nat} {ls' st' : List mv_V}  (X : mv_Cx p l m args meth cd y D bs base L xs s) (hg : mv_get (mv_m y).1 pc = some (.ishr, a)) (hs : mv_step ((L : Int), fun j => (xs j.toNat).toInt) pc (.ishr) a ls st c h = some (pc', ls', st', c', h'))
    (rel : mv_Rl D s bs base ι c.1 h H locs (mv_m y).2.2.1 lsr str ls st) (hcs : cells + (c'.2.1 - c.2.1) ≤ R.cells) (hss : slots + (c'.2.2 - c.2.2) ≤ R.slots)
    (K : ∀ (H1 : Heap) (locs1 : List Loc) (ι1 : Int → Nat) (lsr1 : Array Slot) (str1 : List Value), mv_Rl D s bs base ι1 c'.1 h' H1 locs1 (mv_m y).2.2.1 lsr1 str1 ls' st' → (∀ j : Int, 0 ≤ j → j < c.1 → ι1 j = ι j) → W p l e R s m args below meth cd H1 locs1 (cells + (c'.2.1 - c.2.1)) (slots + (c'.2.2 - c.2.2)) Q (F0 m pc' lsr1 str1)) : W p l e R s m args below meth cd H locs cells slots Q (F0 m pc lsr str) := by
  obtain ⟨hx, hb, hml, hret, hlk, hown, hnm, hxt, hst0, hF⟩ := id X
  obtain ⟨ws, hP, hD, hS, hw, hl, hst⟩ := rel
  have hd := mv_dec hg
  simp only [mv_step] at hs
  obtain ⟨x1, x2, r, rfl, hs9⟩ := mv_b2_spec hs
  obtain ⟨q1, rfl, hst1⟩ := mv_rs_i hst
  obtain ⟨q2, rfl, hst2⟩ := mv_rs_i hst1
  split at hs9
  · cases hs9
    rename_i hr
    have K0 : ∀ lsr1 str1, mv_rl ι c.1 bs ls (mv_m y).2.2.1 lsr1 → mv_rs ι c.1 bs (((0 : Nat), x1 / 2 ^ x2.toNat) :: r) str1 → W p l e R s m args below meth cd H locs cells slots Q (F0 m (pc + 1) lsr1 str1) := fun lsr1 str1 r1 r2 => by
      have := K H locs ι lsr1 str1 ⟨ws, hP, hD, hS, hw, r1, r2⟩ (fun _ _ _ => rfl)
      simpa only [Nat.sub_self, Nat.add_zero] using this
    refine lv_ishr hx hb hd ?_
    exact K0 _ _ hl ⟨by show Value.int _ = Value.int _; rw [nu_shr hr.1 hr.2.1 hr.2.2], hst2⟩
  · cases hs9
theorem mv_w_ior {c c' : mv_C} {h' : mv_H} {pc' : Nat} {ls' st' : List mv_V}  (X : mv_Cx p l m args meth cd y D bs base L xs s) (hg : mv_get (mv_m y).1 pc = some (.ior, a)) (hs : mv_step ((L : Int), fun j => (xs j.toNat).toInt) pc (.ior) a ls st c h = some (pc', ls', st', c', h'))
    (rel : mv_Rl D s bs base ι c.1 h H locs (mv_m y).2.2.1 lsr str ls st) (hcs : cells + (c'.2.1 - c.2.1) ≤ R.cells) (hss : slots + (c'.2.2 - c.2.2) ≤ R.slots)
    (K : ∀ (H1 : Heap) (locs1 : List Loc) (ι1 : Int → Nat) (lsr1 : Array Slot) (str1 : List Value), mv_Rl D s bs base ι1 c'.1 h' H1 locs1 (mv_m y).2.2.1 lsr1 str1 ls' st' → (∀ j : Int, 0 ≤ j → j < c.1 → ι1 j = ι j) → W p l e R s m args below meth cd H1 locs1 (cells + (c'.2.1 - c.2.1)) (slots + (c'.2.2 - c.2.2)) Q (F0 m pc' lsr1 str1)) : W p l e R s m args below meth cd H locs cells slots Q (F0 m pc lsr str) := by
  obtain ⟨hx, hb, hml, hret, hlk, hown, hnm, hxt, hst0, hF⟩ := id X
  obtain ⟨ws, hP, hD, hS, hw, hl, hst⟩ := rel
  have hd := mv_dec hg
  simp only [mv_step] at hs
  obtain ⟨x1, x2, r, rfl, hs9⟩ := mv_b2_spec hs
  obtain ⟨q1, rfl, hst1⟩ := mv_rs_i hst
  obtain ⟨q2, rfl, hst2⟩ := mv_rs_i hst1
  split at hs9
  · cases hs9
    rename_i hr
    have K0 : ∀ lsr1 str1, mv_rl ι c.1 bs ls (mv_m y).2.2.1 lsr1 → mv_rs ι c.1 bs (((0 : Nat), ((x1.toNat ||| x2.toNat : Nat) : Int)) :: r) str1 → W p l e R s m args below meth cd H locs cells slots Q (F0 m (pc + 1) lsr1 str1) := fun lsr1 str1 r1 r2 => by
      have := K H locs ι lsr1 str1 ⟨ws, hP, hD, hS, hw, r1, r2⟩ (fun _ _ _ => rfl)
      simpa only [Nat.sub_self, Nat.add_zero] using this
    refine lv_ior hx hb hd ?_
    exact K0 _ _ hl ⟨by show Value.int _ = Value.int _; rw [nu_or hr.1 hr.2.1 hr.2.2.1 hr.2.2.2], hst2⟩
  · cases hs9
theorem mv_w_ixor {c c' : mv_C} {h' : mv_H} {pc' : Nat} {ls' st' : List mv_V}  (X : mv_Cx p l m args meth cd y D bs base L xs s) (hg : mv_get (mv_m y).1 pc = some (.ixor, a)) (hs : mv_step ((L : Int), fun j => (xs j.toNat).toInt) pc (.ixor) a ls st c h = some (pc', ls', st', c', h'))
    (rel : mv_Rl D s bs base ι c.1 h H locs (mv_m y).2.2.1 lsr str ls st) (hcs : cells + (c'.2.1 - c.2.1) ≤ R.cells) (hss : slots + (c'.2.2 - c.2.2) ≤ R.slots)
    (K : ∀ (H1 : Heap) (locs1 : List Loc) (ι1 : Int → Nat) (lsr1 : Array Slot) (str1 : List Value), mv_Rl D s bs base ι1 c'.1 h' H1 locs1 (mv_m y).2.2.1 lsr1 str1 ls' st' → (∀ j : Int, 0 ≤ j → j < c.1 → ι1 j = ι j) → W p l e R s m args below meth cd H1 locs1 (cells + (c'.2.1 - c.2.1)) (slots + (c'.2.2 - c.2.2)) Q (F0 m pc' lsr1 str1)) : W p l e R s m args below meth cd H locs cells slots Q (F0 m pc lsr str) := by
  obtain ⟨hx, hb, hml, hret, hlk, hown, hnm, hxt, hst0, hF⟩ := id X
  obtain ⟨ws, hP, hD, hS, hw, hl, hst⟩ := rel
  have hd := mv_dec hg
  simp only [mv_step] at hs
  obtain ⟨x1, x2, r, rfl, hs9⟩ := mv_b2_spec hs
  obtain ⟨q1, rfl, hst1⟩ := mv_rs_i hst
  obtain ⟨q2, rfl, hst2⟩ := mv_rs_i hst1
  split at hs9
  · cases hs9
    rename_i hr
    have K0 : ∀ lsr1 str1, mv_rl ι c.1 bs ls (mv_m y).2.2.1 lsr1 → mv_rs ι c.1 bs (((0 : Nat), ((x1.toNat ^^^ x2.toNat : Nat) : Int)) :: r) str1 → W p l e R s m args below meth cd H locs cells slots Q (F0 m (pc + 1) lsr1 str1) := fun lsr1 str1 r1 r2 => by
      have := K H locs ι lsr1 str1 ⟨ws, hP, hD, hS, hw, r1, r2⟩ (fun _ _ _ => rfl)
      simpa only [Nat.sub_self, Nat.add_zero] using this
    refine lv_ixor hx hb hd ?_
    exact K0 _ _ hl ⟨by show Value.int _ = Value.int _; rw [nu_xor hr.1 hr.2.1 hr.2.2.1 hr.2.2.2], hst2⟩
  · cases hs9
theorem mv_w_iand {c c' : mv_C} {h' : mv_H} {pc' : Nat} {ls' st' : List mv_V}  (X : mv_Cx p l m args meth cd y D bs base L xs s) (hg : mv_get (mv_m y).1 pc = some (.iand, a)) (hs : mv_step ((L : Int), fun j => (xs j.toNat).toInt) pc (.iand) a ls st c h = some (pc', ls', st', c', h'))
    (rel : mv_Rl D s bs base ι c.1 h H locs (mv_m y).2.2.1 lsr str ls st) (hcs : cells + (c'.2.1 - c.2.1) ≤ R.cells) (hss : slots + (c'.2.2 - c.2.2) ≤ R.slots)
    (K : ∀ (H1 : Heap) (locs1 : List Loc) (ι1 : Int → Nat) (lsr1 : Array Slot) (str1 : List Value), mv_Rl D s bs base ι1 c'.1 h' H1 locs1 (mv_m y).2.2.1 lsr1 str1 ls' st' → (∀ j : Int, 0 ≤ j → j < c.1 → ι1 j = ι j) → W p l e R s m args below meth cd H1 locs1 (cells + (c'.2.1 - c.2.1)) (slots + (c'.2.2 - c.2.2)) Q (F0 m pc' lsr1 str1)) : W p l e R s m args below meth cd H locs cells slots Q (F0 m pc lsr str) := by
  obtain ⟨hx, hb, hml, hret, hlk, hown, hnm, hxt, hst0, hF⟩ := id X
  obtain ⟨ws, hP, hD, hS, hw, hl, hst⟩ := rel
  have hd := mv_dec hg
  simp only [mv_step] at hs
  obtain ⟨x1, x2, r, rfl, hs9⟩ := mv_b2_spec hs
  obtain ⟨q1, rfl, hst1⟩ := mv_rs_i hst
  obtain ⟨q2, rfl, hst2⟩ := mv_rs_i hst1
  split at hs9
  · cases hs9
    rename_i hr
    have K0 : ∀ lsr1 str1, mv_rl ι c.1 bs ls (mv_m y).2.2.1 lsr1 → mv_rs ι c.1 bs (((0 : Nat), x1 % (x2 + 1)) :: r) str1 → W p l e R s m args below meth cd H locs cells slots Q (F0 m (pc + 1) lsr1 str1) := fun lsr1 str1 r1 r2 => by
      have := K H locs ι lsr1 str1 ⟨ws, hP, hD, hS, hw, r1, r2⟩ (fun _ _ _ => rfl)
      simpa only [Nat.sub_self, Nat.add_zero] using this
    refine lv_iand hx hb hd ?_
    exact K0 _ _ hl ⟨by show Value.int _ = Value.int _; rw [nu_and hr], hst2⟩
  · cases hs9
theorem mv_w_land {c c' : mv_C} {h' : mv_H} {pc' : Nat} {ls' st' : List mv_V}  (X : mv_Cx p l m args meth cd y D bs base L xs s) (hg : mv_get (mv_m y).1 pc = some (.land, a)) (hs : mv_step ((L : Int), fun j => (xs j.toNat).toInt) pc (.land) a ls st c h = some (pc', ls', st', c', h'))
    (rel : mv_Rl D s bs base ι c.1 h H locs (mv_m y).2.2.1 lsr str ls st) (hcs : cells + (c'.2.1 - c.2.1) ≤ R.cells) (hss : slots + (c'.2.2 - c.2.2) ≤ R.slots)
    (K : ∀ (H1 : Heap) (locs1 : List Loc) (ι1 : Int → Nat) (lsr1 : Array Slot) (str1 : List Value), mv_Rl D s bs base ι1 c'.1 h' H1 locs1 (mv_m y).2.2.1 lsr1 str1 ls' st' → (∀ j : Int, 0 ≤ j → j < c.1 → ι1 j = ι j) → W p l e R s m args below meth cd H1 locs1 (cells + (c'.2.1 - c.2.1)) (slots + (c'.2.2 - c.2.2)) Q (F0 m pc' lsr1 str1)) : W p l e R s m args below meth cd H locs cells slots Q (F0 m pc lsr str) := by
  obtain ⟨hx, hb, hml, hret, hlk, hown, hnm, hxt, hst0, hF⟩ := id X
  obtain ⟨ws, hP, hD, hS, hw, hl, hst⟩ := rel
  have hd := mv_dec hg
  simp only [mv_step] at hs
  obtain ⟨x1, x2, r, rfl, hs9⟩ := mv_j2_spec hs
  obtain ⟨q1, rfl, hst1⟩ := mv_rs_j hst
  obtain ⟨q2, rfl, hst2⟩ := mv_rs_j hst1
  split at hs9
  · cases hs9
    rename_i hr
    have K0 : ∀ lsr1 str1, mv_rl ι c.1 bs ls (mv_m y).2.2.1 lsr1 → mv_rs ι c.1 bs (((1 : Nat), x1 % 4294967296) :: r) str1 → W p l e R s m args below meth cd H locs cells slots Q (F0 m (pc + 1) lsr1 str1) := fun lsr1 str1 r1 r2 => by
      have := K H locs ι lsr1 str1 ⟨ws, hP, hD, hS, hw, r1, r2⟩ (fun _ _ _ => rfl)
      simpa only [Nat.sub_self, Nat.add_zero] using this
    refine lv_land hx hb hd ?_
    exact K0 _ _ hl ⟨by show Value.long _ = Value.long _; rw [hr, nu_landm], hst2⟩
  · cases hs9
theorem mv_w_lor {c c' : mv_C} {h' : mv_H} {pc' : Nat} {ls' st' : List mv_V}  (X : mv_Cx p l m args meth cd y D bs base L xs s) (hg : mv_get (mv_m y).1 pc = some (.lor, a)) (hs : mv_step ((L : Int), fun j => (xs j.toNat).toInt) pc (.lor) a ls st c h = some (pc', ls', st', c', h'))
    (rel : mv_Rl D s bs base ι c.1 h H locs (mv_m y).2.2.1 lsr str ls st) (hcs : cells + (c'.2.1 - c.2.1) ≤ R.cells) (hss : slots + (c'.2.2 - c.2.2) ≤ R.slots)
    (K : ∀ (H1 : Heap) (locs1 : List Loc) (ι1 : Int → Nat) (lsr1 : Array Slot) (str1 : List Value), mv_Rl D s bs base ι1 c'.1 h' H1 locs1 (mv_m y).2.2.1 lsr1 str1 ls' st' → (∀ j : Int, 0 ≤ j → j < c.1 → ι1 j = ι j) → W p l e R s m args below meth cd H1 locs1 (cells + (c'.2.1 - c.2.1)) (slots + (c'.2.2 - c.2.2)) Q (F0 m pc' lsr1 str1)) : W p l e R s m args below meth cd H locs cells slots Q (F0 m pc lsr str) := by
  obtain ⟨hx, hb, hml, hret, hlk, hown, hnm, hxt, hst0, hF⟩ := id X
  obtain ⟨ws, hP, hD, hS, hw, hl, hst⟩ := rel
  have hd := mv_dec hg
  simp only [mv_step] at hs
  obtain ⟨x1, x2, r, rfl, hs9⟩ := mv_j2_spec hs
  obtain ⟨q1, rfl, hst1⟩ := mv_rs_j hst
  obtain ⟨q2, rfl, hst2⟩ := mv_rs_j hst1
  split at hs9
  · cases hs9
    rename_i hr
    have K0 : ∀ lsr1 str1, mv_rl ι c.1 bs ls (mv_m y).2.2.1 lsr1 → mv_rs ι c.1 bs (((1 : Nat), x1 + x2) :: r) str1 → W p l e R s m args below meth cd H locs cells slots Q (F0 m (pc + 1) lsr1 str1) := fun lsr1 str1 r1 r2 => by
      have := K H locs ι lsr1 str1 ⟨ws, hP, hD, hS, hw, r1, r2⟩ (fun _ _ _ => rfl)
      simpa only [Nat.sub_self, Nat.add_zero] using this
    refine lv_lor hx hb hd ?_
    exact K0 _ _ hl ⟨by show Value.long _ = Value.long _; rw [nu_lor hr.1 hr.2.1 hr.2.2], hst2⟩
  · cases hs9
theorem mv_w_lcmp {c c' : mv_C} {h' : mv_H} {pc' : Nat} {ls' st' : List mv_V}  (X : mv_Cx p l m args meth cd y D bs base L xs s) (hg : mv_get (mv_m y).1 pc = some (.lcmp, a)) (hs : mv_step ((L : Int), fun j => (xs j.toNat).toInt) pc (.lcmp) a ls st c h = some (pc', ls', st', c', h'))
    (rel : mv_Rl D s bs base ι c.1 h H locs (mv_m y).2.2.1 lsr str ls st) (hcs : cells + (c'.2.1 - c.2.1) ≤ R.cells) (hss : slots + (c'.2.2 - c.2.2) ≤ R.slots)
    (K : ∀ (H1 : Heap) (locs1 : List Loc) (ι1 : Int → Nat) (lsr1 : Array Slot) (str1 : List Value), mv_Rl D s bs base ι1 c'.1 h' H1 locs1 (mv_m y).2.2.1 lsr1 str1 ls' st' → (∀ j : Int, 0 ≤ j → j < c.1 → ι1 j = ι j) → W p l e R s m args below meth cd H1 locs1 (cells + (c'.2.1 - c.2.1)) (slots + (c'.2.2 - c.2.2)) Q (F0 m pc' lsr1 str1)) : W p l e R s m args below meth cd H locs cells slots Q (F0 m pc lsr str) := by
  obtain ⟨hx, hb, hml, hret, hlk, hown, hnm, hxt, hst0, hF⟩ := id X
  obtain ⟨ws, hP, hD, hS, hw, hl, hst⟩ := rel
  have hd := mv_dec hg
  simp only [mv_step] at hs
  obtain ⟨x1, x2, r, rfl, hs9⟩ := mv_j2_spec hs
  obtain ⟨q1, rfl, hst1⟩ := mv_rs_j hst
  obtain ⟨q2, rfl, hst2⟩ := mv_rs_j hst1
  split at hs9
  · cases hs9
    rename_i hr
    have K0 : ∀ lsr1 str1, mv_rl ι c.1 bs ls (mv_m y).2.2.1 lsr1 → mv_rs ι c.1 bs (((0 : Nat), mv_cL x1 x2) :: r) str1 → W p l e R s m args below meth cd H locs cells slots Q (F0 m (pc + 1) lsr1 str1) := fun lsr1 str1 r1 r2 => by
      have := K H locs ι lsr1 str1 ⟨ws, hP, hD, hS, hw, r1, r2⟩ (fun _ _ _ => rfl)
      simpa only [Nat.sub_self, Nat.add_zero] using this
    refine W.lcmp hx hb hd ?_
    exact K0 _ _ hl ⟨by show Value.int _ = Value.int _; rw [nu_lcmp hr.1 hr.2], hst2⟩
  · cases hs9
theorem mv_w_lshl {c c' : mv_C} {h' : mv_H} {pc' : Nat} {ls' st' : List mv_V}  (X : mv_Cx p l m args meth cd y D bs base L xs s) (hg : mv_get (mv_m y).1 pc = some (.lshl, a)) (hs : mv_step ((L : Int), fun j => (xs j.toNat).toInt) pc (.lshl) a ls st c h = some (pc', ls', st', c', h'))
    (rel : mv_Rl D s bs base ι c.1 h H locs (mv_m y).2.2.1 lsr str ls st) (hcs : cells + (c'.2.1 - c.2.1) ≤ R.cells) (hss : slots + (c'.2.2 - c.2.2) ≤ R.slots)
    (K : ∀ (H1 : Heap) (locs1 : List Loc) (ι1 : Int → Nat) (lsr1 : Array Slot) (str1 : List Value), mv_Rl D s bs base ι1 c'.1 h' H1 locs1 (mv_m y).2.2.1 lsr1 str1 ls' st' → (∀ j : Int, 0 ≤ j → j < c.1 → ι1 j = ι j) → W p l e R s m args below meth cd H1 locs1 (cells + (c'.2.1 - c.2.1)) (slots + (c'.2.2 - c.2.2)) Q (F0 m pc' lsr1 str1)) : W p l e R s m args below meth cd H locs cells slots Q (F0 m pc lsr str) := by
  obtain ⟨hx, hb, hml, hret, hlk, hown, hnm, hxt, hst0, hF⟩ := id X
  obtain ⟨ws, hP, hD, hS, hw, hl, hst⟩ := rel
  have hd := mv_dec hg
  simp only [mv_step] at hs
  split at hs
  · rename_i x2 x1 r
    obtain ⟨q1, rfl, hst1⟩ := mv_rs_i hst
    obtain ⟨q2, rfl, hst2⟩ := mv_rs_j hst1
    split at hs
    · cases hs
      rename_i hr
      have K0 : ∀ lsr1 str1, mv_rl ι c.1 bs ls (mv_m y).2.2.1 lsr1 → mv_rs ι c.1 bs (((1 : Nat), x1 * 2 ^ x2.toNat) :: r) str1 → W p l e R s m args below meth cd H locs cells slots Q (F0 m (pc + 1) lsr1 str1) := fun lsr1 str1 r1 r2 => by
        have := K H locs ι lsr1 str1 ⟨ws, hP, hD, hS, hw, r1, r2⟩ (fun _ _ _ => rfl)
        simpa only [Nat.sub_self, Nat.add_zero] using this
      refine lv_lshl hx hb hd rfl ?_
      exact K0 _ _ hl ⟨by show Value.long _ = Value.long _; rw [nu_lshl hr.1 hr.2], hst2⟩
    · cases hs
  · cases hs
theorem mv_w_lushr {c c' : mv_C} {h' : mv_H} {pc' : Nat} {ls' st' : List mv_V}  (X : mv_Cx p l m args meth cd y D bs base L xs s) (hg : mv_get (mv_m y).1 pc = some (.lushr, a)) (hs : mv_step ((L : Int), fun j => (xs j.toNat).toInt) pc (.lushr) a ls st c h = some (pc', ls', st', c', h'))
    (rel : mv_Rl D s bs base ι c.1 h H locs (mv_m y).2.2.1 lsr str ls st) (hcs : cells + (c'.2.1 - c.2.1) ≤ R.cells) (hss : slots + (c'.2.2 - c.2.2) ≤ R.slots)
    (K : ∀ (H1 : Heap) (locs1 : List Loc) (ι1 : Int → Nat) (lsr1 : Array Slot) (str1 : List Value), mv_Rl D s bs base ι1 c'.1 h' H1 locs1 (mv_m y).2.2.1 lsr1 str1 ls' st' → (∀ j : Int, 0 ≤ j → j < c.1 → ι1 j = ι j) → W p l e R s m args below meth cd H1 locs1 (cells + (c'.2.1 - c.2.1)) (slots + (c'.2.2 - c.2.2)) Q (F0 m pc' lsr1 str1)) : W p l e R s m args below meth cd H locs cells slots Q (F0 m pc lsr str) := by
  obtain ⟨hx, hb, hml, hret, hlk, hown, hnm, hxt, hst0, hF⟩ := id X
  obtain ⟨ws, hP, hD, hS, hw, hl, hst⟩ := rel
  have hd := mv_dec hg
  simp only [mv_step] at hs
  split at hs
  · rename_i x2 x1 r
    obtain ⟨q1, rfl, hst1⟩ := mv_rs_i hst
    obtain ⟨q2, rfl, hst2⟩ := mv_rs_j hst1
    split at hs
    · cases hs
      rename_i hr
      have K0 : ∀ lsr1 str1, mv_rl ι c.1 bs ls (mv_m y).2.2.1 lsr1 → mv_rs ι c.1 bs (((1 : Nat), (x1 % 18446744073709551616) / 2 ^ x2.toNat) :: r) str1 → W p l e R s m args below meth cd H locs cells slots Q (F0 m (pc + 1) lsr1 str1) := fun lsr1 str1 r1 r2 => by
        have := K H locs ι lsr1 str1 ⟨ws, hP, hD, hS, hw, r1, r2⟩ (fun _ _ _ => rfl)
        simpa only [Nat.sub_self, Nat.add_zero] using this
      refine lv_lushr hx hb hd rfl ?_
      exact K0 _ _ hl ⟨by show Value.long _ = Value.long _; rw [nu_lushr hr.1 hr.2], hst2⟩
    · cases hs
  · cases hs
theorem mv_w_i2l {c c' : mv_C} {h' : mv_H} {pc' : Nat} {ls' st' : List mv_V}  (X : mv_Cx p l m args meth cd y D bs base L xs s) (hg : mv_get (mv_m y).1 pc = some (.i2l, a)) (hs : mv_step ((L : Int), fun j => (xs j.toNat).toInt) pc (.i2l) a ls st c h = some (pc', ls', st', c', h'))
    (rel : mv_Rl D s bs base ι c.1 h H locs (mv_m y).2.2.1 lsr str ls st) (hcs : cells + (c'.2.1 - c.2.1) ≤ R.cells) (hss : slots + (c'.2.2 - c.2.2) ≤ R.slots)
    (K : ∀ (H1 : Heap) (locs1 : List Loc) (ι1 : Int → Nat) (lsr1 : Array Slot) (str1 : List Value), mv_Rl D s bs base ι1 c'.1 h' H1 locs1 (mv_m y).2.2.1 lsr1 str1 ls' st' → (∀ j : Int, 0 ≤ j → j < c.1 → ι1 j = ι j) → W p l e R s m args below meth cd H1 locs1 (cells + (c'.2.1 - c.2.1)) (slots + (c'.2.2 - c.2.2)) Q (F0 m pc' lsr1 str1)) : W p l e R s m args below meth cd H locs cells slots Q (F0 m pc lsr str) := by
  obtain ⟨hx, hb, hml, hret, hlk, hown, hnm, hxt, hst0, hF⟩ := id X
  obtain ⟨ws, hP, hD, hS, hw, hl, hst⟩ := rel
  have hd := mv_dec hg
  simp only [mv_step] at hs
  split at hs
  · rename_i x1 r
    obtain ⟨q1, rfl, hst1⟩ := mv_rs_i hst
    split at hs
    · cases hs
      rename_i hr
      have K0 : ∀ lsr1 str1, mv_rl ι c.1 bs ls (mv_m y).2.2.1 lsr1 → mv_rs ι c.1 bs ((1, x1) :: r) str1 → W p l e R s m args below meth cd H locs cells slots Q (F0 m (pc + 1) lsr1 str1) := fun lsr1 str1 r1 r2 => by
        have := K H locs ι lsr1 str1 ⟨ws, hP, hD, hS, hw, r1, r2⟩ (fun _ _ _ => rfl)
        simpa only [Nat.sub_self, Nat.add_zero] using this
      refine lv_i2l hx hb hd rfl ?_
      exact K0 _ _ hl ⟨by show Value.long _ = Value.long _; rw [nu_i2l hr], hst1⟩
    · cases hs
  · cases hs
theorem mv_w_l2i {c c' : mv_C} {h' : mv_H} {pc' : Nat} {ls' st' : List mv_V}  (X : mv_Cx p l m args meth cd y D bs base L xs s) (hg : mv_get (mv_m y).1 pc = some (.l2i, a)) (hs : mv_step ((L : Int), fun j => (xs j.toNat).toInt) pc (.l2i) a ls st c h = some (pc', ls', st', c', h'))
    (rel : mv_Rl D s bs base ι c.1 h H locs (mv_m y).2.2.1 lsr str ls st) (hcs : cells + (c'.2.1 - c.2.1) ≤ R.cells) (hss : slots + (c'.2.2 - c.2.2) ≤ R.slots)
    (K : ∀ (H1 : Heap) (locs1 : List Loc) (ι1 : Int → Nat) (lsr1 : Array Slot) (str1 : List Value), mv_Rl D s bs base ι1 c'.1 h' H1 locs1 (mv_m y).2.2.1 lsr1 str1 ls' st' → (∀ j : Int, 0 ≤ j → j < c.1 → ι1 j = ι j) → W p l e R s m args below meth cd H1 locs1 (cells + (c'.2.1 - c.2.1)) (slots + (c'.2.2 - c.2.2)) Q (F0 m pc' lsr1 str1)) : W p l e R s m args below meth cd H locs cells slots Q (F0 m pc lsr str) := by
  obtain ⟨hx, hb, hml, hret, hlk, hown, hnm, hxt, hst0, hF⟩ := id X
  obtain ⟨ws, hP, hD, hS, hw, hl, hst⟩ := rel
  have hd := mv_dec hg
  simp only [mv_step] at hs
  split at hs
  · rename_i x1 r
    obtain ⟨q1, rfl, hst1⟩ := mv_rs_j hst
    cases hs
    have K0 : ∀ lsr1 str1, mv_rl ι c.1 bs ls (mv_m y).2.2.1 lsr1 → mv_rs ι c.1 bs ((0, x1) :: r) str1 → W p l e R s m args below meth cd H locs cells slots Q (F0 m (pc + 1) lsr1 str1) := fun lsr1 str1 r1 r2 => by
      have := K H locs ι lsr1 str1 ⟨ws, hP, hD, hS, hw, r1, r2⟩ (fun _ _ _ => rfl)
      simpa only [Nat.sub_self, Nat.add_zero] using this
    refine lv_l2i hx hb hd rfl ?_
    exact K0 _ _ hl ⟨by show Value.int _ = Value.int _; rw [nu_l2i], hst1⟩
  · cases hs
theorem mv_w_i2c {c c' : mv_C} {h' : mv_H} {pc' : Nat} {ls' st' : List mv_V}  (X : mv_Cx p l m args meth cd y D bs base L xs s) (hg : mv_get (mv_m y).1 pc = some (.i2c, a)) (hs : mv_step ((L : Int), fun j => (xs j.toNat).toInt) pc (.i2c) a ls st c h = some (pc', ls', st', c', h'))
    (rel : mv_Rl D s bs base ι c.1 h H locs (mv_m y).2.2.1 lsr str ls st) (hcs : cells + (c'.2.1 - c.2.1) ≤ R.cells) (hss : slots + (c'.2.2 - c.2.2) ≤ R.slots)
    (K : ∀ (H1 : Heap) (locs1 : List Loc) (ι1 : Int → Nat) (lsr1 : Array Slot) (str1 : List Value), mv_Rl D s bs base ι1 c'.1 h' H1 locs1 (mv_m y).2.2.1 lsr1 str1 ls' st' → (∀ j : Int, 0 ≤ j → j < c.1 → ι1 j = ι j) → W p l e R s m args below meth cd H1 locs1 (cells + (c'.2.1 - c.2.1)) (slots + (c'.2.2 - c.2.2)) Q (F0 m pc' lsr1 str1)) : W p l e R s m args below meth cd H locs cells slots Q (F0 m pc lsr str) := by
  obtain ⟨hx, hb, hml, hret, hlk, hown, hnm, hxt, hst0, hF⟩ := id X
  obtain ⟨ws, hP, hD, hS, hw, hl, hst⟩ := rel
  have hd := mv_dec hg
  simp only [mv_step] at hs
  split at hs
  · rename_i x1 r
    obtain ⟨q1, rfl, hst1⟩ := mv_rs_i hst
    split at hs
    · cases hs
      rename_i hr
      have K0 : ∀ lsr1 str1, mv_rl ι c.1 bs ls (mv_m y).2.2.1 lsr1 → mv_rs ι c.1 bs ((0, x1) :: r) str1 → W p l e R s m args below meth cd H locs cells slots Q (F0 m (pc + 1) lsr1 str1) := fun lsr1 str1 r1 r2 => by
        have := K H locs ι lsr1 str1 ⟨ws, hP, hD, hS, hw, r1, r2⟩ (fun _ _ _ => rfl)
        simpa only [Nat.sub_self, Nat.add_zero] using this
      refine lv_i2c hx hb hd rfl ?_
      exact K0 _ _ hl ⟨by show Value.int _ = Value.int _; rw [nu_i2c hr.1 hr.2], hst1⟩
    · cases hs
  · cases hs
theorem mv_w_pop {c c' : mv_C} {h' : mv_H} {pc' : Nat} {ls' st' : List mv_V}  (X : mv_Cx p l m args meth cd y D bs base L xs s) (hg : mv_get (mv_m y).1 pc = some (.pop, a)) (hs : mv_step ((L : Int), fun j => (xs j.toNat).toInt) pc (.pop) a ls st c h = some (pc', ls', st', c', h'))
    (rel : mv_Rl D s bs base ι c.1 h H locs (mv_m y).2.2.1 lsr str ls st) (hcs : cells + (c'.2.1 - c.2.1) ≤ R.cells) (hss : slots + (c'.2.2 - c.2.2) ≤ R.slots)
    (K : ∀ (H1 : Heap) (locs1 : List Loc) (ι1 : Int → Nat) (lsr1 : Array Slot) (str1 : List Value), mv_Rl D s bs base ι1 c'.1 h' H1 locs1 (mv_m y).2.2.1 lsr1 str1 ls' st' → (∀ j : Int, 0 ≤ j → j < c.1 → ι1 j = ι j) → W p l e R s m args below meth cd H1 locs1 (cells + (c'.2.1 - c.2.1)) (slots + (c'.2.2 - c.2.2)) Q (F0 m pc' lsr1 str1)) : W p l e R s m args below meth cd H locs cells slots Q (F0 m pc lsr str) := by
  obtain ⟨hx, hb, hml, hret, hlk, hown, hnm, hxt, hst0, hF⟩ := id X
  obtain ⟨ws, hP, hD, hS, hw, hl, hst⟩ := rel
  have hd := mv_dec hg
  simp only [mv_step] at hs
  split at hs
  · rename_i v r
    split at hs
    · cases hs
      rename_i hr
      obtain ⟨x, q, rfl, hx2, hq⟩ := mv_rs_c hst
      have K0 : ∀ lsr1 str1, mv_rl ι c.1 bs ls (mv_m y).2.2.1 lsr1 → mv_rs ι c.1 bs st' str1 → W p l e R s m args below meth cd H locs cells slots Q (F0 m (pc + 1) lsr1 str1) := fun lsr1 str1 r1 r2 => by
        have := K H locs ι lsr1 str1 ⟨ws, hP, hD, hS, hw, r1, r2⟩ (fun _ _ _ => rfl)
        simpa only [Nat.sub_self, Nat.add_zero] using this
      exact lv_pop hx hb hd (mv_rv_cat hx2 (by omega)) (K0 _ _ hl hq)
    · cases hs
  · cases hs
theorem mv_w_dup {c c' : mv_C} {h' : mv_H} {pc' : Nat} {ls' st' : List mv_V}  (X : mv_Cx p l m args meth cd y D bs base L xs s) (hg : mv_get (mv_m y).1 pc = some (.dup, a)) (hs : mv_step ((L : Int), fun j => (xs j.toNat).toInt) pc (.dup) a ls st c h = some (pc', ls', st', c', h'))
    (rel : mv_Rl D s bs base ι c.1 h H locs (mv_m y).2.2.1 lsr str ls st) (hcs : cells + (c'.2.1 - c.2.1) ≤ R.cells) (hss : slots + (c'.2.2 - c.2.2) ≤ R.slots)
    (K : ∀ (H1 : Heap) (locs1 : List Loc) (ι1 : Int → Nat) (lsr1 : Array Slot) (str1 : List Value), mv_Rl D s bs base ι1 c'.1 h' H1 locs1 (mv_m y).2.2.1 lsr1 str1 ls' st' → (∀ j : Int, 0 ≤ j → j < c.1 → ι1 j = ι j) → W p l e R s m args below meth cd H1 locs1 (cells + (c'.2.1 - c.2.1)) (slots + (c'.2.2 - c.2.2)) Q (F0 m pc' lsr1 str1)) : W p l e R s m args below meth cd H locs cells slots Q (F0 m pc lsr str) := by
  obtain ⟨hx, hb, hml, hret, hlk, hown, hnm, hxt, hst0, hF⟩ := id X
  obtain ⟨ws, hP, hD, hS, hw, hl, hst⟩ := rel
  have hd := mv_dec hg
  simp only [mv_step] at hs
  split at hs
  · rename_i v r
    split at hs
    · cases hs
      rename_i hr
      obtain ⟨x, q, rfl, hx2, hq⟩ := mv_rs_c hst
      have K0 : ∀ lsr1 str1, mv_rl ι c.1 bs ls (mv_m y).2.2.1 lsr1 → mv_rs ι c.1 bs (v :: v :: r) str1 → W p l e R s m args below meth cd H locs cells slots Q (F0 m (pc + 1) lsr1 str1) := fun lsr1 str1 r1 r2 => by
        have := K H locs ι lsr1 str1 ⟨ws, hP, hD, hS, hw, r1, r2⟩ (fun _ _ _ => rfl)
        simpa only [Nat.sub_self, Nat.add_zero] using this
      exact lv_dup hx hb hd (mv_rv_cat hx2 (by omega)) (K0 _ _ hl ⟨hx2, hx2, hq⟩)
    · cases hs
  · cases hs
theorem mv_w_dup2 {c c' : mv_C} {h' : mv_H} {pc' : Nat} {ls' st' : List mv_V}  (X : mv_Cx p l m args meth cd y D bs base L xs s) (hg : mv_get (mv_m y).1 pc = some (.dup2, a)) (hs : mv_step ((L : Int), fun j => (xs j.toNat).toInt) pc (.dup2) a ls st c h = some (pc', ls', st', c', h'))
    (rel : mv_Rl D s bs base ι c.1 h H locs (mv_m y).2.2.1 lsr str ls st) (hcs : cells + (c'.2.1 - c.2.1) ≤ R.cells) (hss : slots + (c'.2.2 - c.2.2) ≤ R.slots)
    (K : ∀ (H1 : Heap) (locs1 : List Loc) (ι1 : Int → Nat) (lsr1 : Array Slot) (str1 : List Value), mv_Rl D s bs base ι1 c'.1 h' H1 locs1 (mv_m y).2.2.1 lsr1 str1 ls' st' → (∀ j : Int, 0 ≤ j → j < c.1 → ι1 j = ι j) → W p l e R s m args below meth cd H1 locs1 (cells + (c'.2.1 - c.2.1)) (slots + (c'.2.2 - c.2.2)) Q (F0 m pc' lsr1 str1)) : W p l e R s m args below meth cd H locs cells slots Q (F0 m pc lsr str) := by
  obtain ⟨hx, hb, hml, hret, hlk, hown, hnm, hxt, hst0, hF⟩ := id X
  obtain ⟨ws, hP, hD, hS, hw, hl, hst⟩ := rel
  have hd := mv_dec hg
  simp only [mv_step] at hs
  split at hs
  · rename_i v w r
    split at hs
    · cases hs
      rename_i hr
      obtain ⟨x, q, rfl, hx2, hq⟩ := mv_rs_c hst
      obtain ⟨x', q', rfl, hx2', hq'⟩ := mv_rs_c hq
      have K0 : ∀ lsr1 str1, mv_rl ι c.1 bs ls (mv_m y).2.2.1 lsr1 → mv_rs ι c.1 bs (v :: w :: v :: w :: r) str1 → W p l e R s m args below meth cd H locs cells slots Q (F0 m (pc + 1) lsr1 str1) := fun lsr1 str1 r1 r2 => by
        have := K H locs ι lsr1 str1 ⟨ws, hP, hD, hS, hw, r1, r2⟩ (fun _ _ _ => rfl)
        simpa only [Nat.sub_self, Nat.add_zero] using this
      exact lv_dup2_11 hx hb hd (mv_rv_cat hx2 (by omega)) (mv_rv_cat hx2' (by omega)) (K0 _ _ hl ⟨hx2, hx2', hx2, hx2', hq'⟩)
    · cases hs
  · cases hs
theorem mv_w_goto {c c' : mv_C} {h' : mv_H} {pc' : Nat} {ls' st' : List mv_V} {off : Int} (X : mv_Cx p l m args meth cd y D bs base L xs s) (hg : mv_get (mv_m y).1 pc = some (.goto off, a)) (hs : mv_step ((L : Int), fun j => (xs j.toNat).toInt) pc (.goto off) a ls st c h = some (pc', ls', st', c', h'))
    (rel : mv_Rl D s bs base ι c.1 h H locs (mv_m y).2.2.1 lsr str ls st) (hcs : cells + (c'.2.1 - c.2.1) ≤ R.cells) (hss : slots + (c'.2.2 - c.2.2) ≤ R.slots)
    (K : ∀ (H1 : Heap) (locs1 : List Loc) (ι1 : Int → Nat) (lsr1 : Array Slot) (str1 : List Value), mv_Rl D s bs base ι1 c'.1 h' H1 locs1 (mv_m y).2.2.1 lsr1 str1 ls' st' → (∀ j : Int, 0 ≤ j → j < c.1 → ι1 j = ι j) → W p l e R s m args below meth cd H1 locs1 (cells + (c'.2.1 - c.2.1)) (slots + (c'.2.2 - c.2.2)) Q (F0 m pc' lsr1 str1)) : W p l e R s m args below meth cd H locs cells slots Q (F0 m pc lsr str) := by
  obtain ⟨hx, hb, hml, hret, hlk, hown, hnm, hxt, hst0, hF⟩ := id X
  obtain ⟨ws, hP, hD, hS, hw, hl, hst⟩ := rel
  have hd := mv_dec hg
  simp only [mv_step] at hs
  obtain ⟨t, h1, h2⟩ := mv_jmp_spec hs
  cases h2
  have K0 : ∀ lsr1 str1, mv_rl ι c.1 bs ls (mv_m y).2.2.1 lsr1 → mv_rs ι c.1 bs st str1 → W p l e R s m args below meth cd H locs cells slots Q (F0 m pc' lsr1 str1) := fun lsr1 str1 r1 r2 => by
    have := K H locs ι lsr1 str1 ⟨ws, hP, hD, hS, hw, r1, r2⟩ (fun _ _ _ => rfl)
    simpa only [Nat.sub_self, Nat.add_zero] using this
  exact lv_goto hx hb hd h1 (K0 _ _ hl hst)
theorem mv_w_ifCond {c c' : mv_C} {h' : mv_H} {pc' : Nat} {ls' st' : List mv_V} {kk : ClassFile.Cond} {off : Int} (X : mv_Cx p l m args meth cd y D bs base L xs s) (hg : mv_get (mv_m y).1 pc = some (.ifCond kk off, a)) (hs : mv_step ((L : Int), fun j => (xs j.toNat).toInt) pc (.ifCond kk off) a ls st c h = some (pc', ls', st', c', h'))
    (rel : mv_Rl D s bs base ι c.1 h H locs (mv_m y).2.2.1 lsr str ls st) (hcs : cells + (c'.2.1 - c.2.1) ≤ R.cells) (hss : slots + (c'.2.2 - c.2.2) ≤ R.slots)
    (K : ∀ (H1 : Heap) (locs1 : List Loc) (ι1 : Int → Nat) (lsr1 : Array Slot) (str1 : List Value), mv_Rl D s bs base ι1 c'.1 h' H1 locs1 (mv_m y).2.2.1 lsr1 str1 ls' st' → (∀ j : Int, 0 ≤ j → j < c.1 → ι1 j = ι j) → W p l e R s m args below meth cd H1 locs1 (cells + (c'.2.1 - c.2.1)) (slots + (c'.2.2 - c.2.2)) Q (F0 m pc' lsr1 str1)) : W p l e R s m args below meth cd H locs cells slots Q (F0 m pc lsr str) := by
  obtain ⟨hx, hb, hml, hret, hlk, hown, hnm, hxt, hst0, hF⟩ := id X
  obtain ⟨ws, hP, hD, hS, hw, hl, hst⟩ := rel
  have hd := mv_dec hg
  simp only [mv_step] at hs
  split at hs
  · rename_i x1 r
    obtain ⟨q1, rfl, hst1⟩ := mv_rs_i hst
    split at hs
    · rename_i hr
      have ht : (pc : Int) + off = (((pc : Int) + off).toNat : Int) := (Int.toNat_of_nonneg hr.2).symm
      have K1 : mv_cmp kk x1 0 = true → W p l e R s m args below meth cd H locs cells slots Q (F0 m ((pc : Int) + off).toNat lsr q1) := fun hc => by
        rw [if_pos hc] at hs
        cases hs
        have := K H locs ι lsr q1 ⟨ws, hP, hD, hS, hw, hl, hst1⟩ (fun _ _ _ => rfl)
        simpa only [Nat.sub_self, Nat.add_zero] using this
      have K2 : ¬ mv_cmp kk x1 0 = true → W p l e R s m args below meth cd H locs cells slots Q (F0 m (pc + 3) lsr q1) := fun hc => by
        rw [if_neg hc] at hs
        cases hs
        have := K H locs ι lsr q1 ⟨ws, hP, hD, hS, hw, hl, hst1⟩ (fun _ _ _ => rfl)
        simpa only [Nat.sub_self, Nat.add_zero] using this
      cases kk with
      | eq => exact lv_if_eq hx hb hd ht (fun hy => K1 (decide_eq_true ((nu_eq0 hr.1).mp hy))) (fun hn => K2 (fun z => hn ((nu_eq0 hr.1).mpr (of_decide_eq_true z))))
      | ne => exact lv_if_ne hx hb hd ht (fun hy => K1 (decide_eq_true ((nu_ne0 hr.1).mp hy))) (fun hn => K2 (fun z => of_decide_eq_true z ((nu_eq0 hr.1).mp hn)))
      | lt => exact lv_if_lt hx hb hd ht (fun hy => K1 (decide_eq_true ((nu_lt0 hr.1).mp hy))) (fun hn => K2 (fun z => hn ((nu_lt0 hr.1).mpr (of_decide_eq_true z))))
      | ge => exact lv_if_ge hx hb hd ht (fun hy => K1 (decide_eq_true ((nu_ge0 hr.1).mp hy))) (fun hn => K2 (fun z => hn ((nu_ge0 hr.1).mpr (of_decide_eq_true z))))
      | gt => exact lv_if_gt hx hb hd ht (fun hy => K1 (decide_eq_true ((nu_gt0 hr.1).mp hy))) (fun hn => K2 (fun z => hn ((nu_gt0 hr.1).mpr (of_decide_eq_true z))))
      | le => exact lv_if_le hx hb hd ht (fun hy => K1 (decide_eq_true ((nu_le0 hr.1).mp hy))) (fun hn => K2 (fun z => hn ((nu_le0 hr.1).mpr (of_decide_eq_true z))))
    · cases hs
  · cases hs
theorem mv_w_if_icmp {c c' : mv_C} {h' : mv_H} {pc' : Nat} {ls' st' : List mv_V} {kk : ClassFile.Cond} {off : Int} (X : mv_Cx p l m args meth cd y D bs base L xs s) (hg : mv_get (mv_m y).1 pc = some (.if_icmp kk off, a)) (hs : mv_step ((L : Int), fun j => (xs j.toNat).toInt) pc (.if_icmp kk off) a ls st c h = some (pc', ls', st', c', h'))
    (rel : mv_Rl D s bs base ι c.1 h H locs (mv_m y).2.2.1 lsr str ls st) (hcs : cells + (c'.2.1 - c.2.1) ≤ R.cells) (hss : slots + (c'.2.2 - c.2.2) ≤ R.slots)
    (K : ∀ (H1 : Heap) (locs1 : List Loc) (ι1 : Int → Nat) (lsr1 : Array Slot) (str1 : List Value), mv_Rl D s bs base ι1 c'.1 h' H1 locs1 (mv_m y).2.2.1 lsr1 str1 ls' st' → (∀ j : Int, 0 ≤ j → j < c.1 → ι1 j = ι j) → W p l e R s m args below meth cd H1 locs1 (cells + (c'.2.1 - c.2.1)) (slots + (c'.2.2 - c.2.2)) Q (F0 m pc' lsr1 str1)) : W p l e R s m args below meth cd H locs cells slots Q (F0 m pc lsr str) := by
  obtain ⟨hx, hb, hml, hret, hlk, hown, hnm, hxt, hst0, hF⟩ := id X
  obtain ⟨ws, hP, hD, hS, hw, hl, hst⟩ := rel
  have hd := mv_dec hg
  simp only [mv_step] at hs
  obtain ⟨x1, x2, r, rfl, hs9⟩ := mv_b2_spec hs
  clear hs
  have hs := hs9
  clear hs9
  obtain ⟨q1, rfl, hst1⟩ := mv_rs_i hst
  obtain ⟨q2, rfl, hst2⟩ := mv_rs_i hst1
  split at hs
  · rename_i hr
    have ht : (pc : Int) + off = (((pc : Int) + off).toNat : Int) := (Int.toNat_of_nonneg hr.2.2).symm
    have K1 : mv_cmp kk x1 x2 = true → W p l e R s m args below meth cd H locs cells slots Q (F0 m ((pc : Int) + off).toNat lsr q2) := fun hc => by
      rw [if_pos hc] at hs
      cases hs
      have := K H locs ι lsr q2 ⟨ws, hP, hD, hS, hw, hl, hst2⟩ (fun _ _ _ => rfl)
      simpa only [Nat.sub_self, Nat.add_zero] using this
    have K2 : ¬ mv_cmp kk x1 x2 = true → W p l e R s m args below meth cd H locs cells slots Q (F0 m (pc + 3) lsr q2) := fun hc => by
      rw [if_neg hc] at hs
      cases hs
      have := K H locs ι lsr q2 ⟨ws, hP, hD, hS, hw, hl, hst2⟩ (fun _ _ _ => rfl)
      simpa only [Nat.sub_self, Nat.add_zero] using this
    cases kk with
    | eq => exact lv_icmp_eq hx hb hd ht (fun hy => K1 (decide_eq_true ((nu_eq hr.1 hr.2.1).mp hy))) (fun hn => K2 (fun z => hn ((nu_eq hr.1 hr.2.1).mpr (of_decide_eq_true z))))
    | ne => exact lv_icmp_ne hx hb hd ht (fun hy => K1 (decide_eq_true ((not_congr (nu_eq hr.1 hr.2.1)).mp hy))) (fun hn => K2 (fun z => of_decide_eq_true z ((nu_eq hr.1 hr.2.1).mp hn)))
    | lt => exact lv_icmp_lt hx hb hd ht (fun hy => K1 (decide_eq_true ((nu_lt hr.1 hr.2.1).mp hy))) (fun hn => K2 (fun z => hn ((nu_lt hr.1 hr.2.1).mpr (of_decide_eq_true z))))
    | ge => exact lv_icmp_ge hx hb hd ht (fun hy => K1 (decide_eq_true ((nu_le hr.2.1 hr.1).mp hy))) (fun hn => K2 (fun z => hn ((nu_le hr.2.1 hr.1).mpr (of_decide_eq_true z))))
    | gt => exact lv_icmp_gt hx hb hd ht (fun hy => K1 (decide_eq_true ((nu_lt hr.2.1 hr.1).mp hy))) (fun hn => K2 (fun z => hn ((nu_lt hr.2.1 hr.1).mpr (of_decide_eq_true z))))
    | le => exact lv_icmp_le hx hb hd ht (fun hy => K1 (decide_eq_true ((nu_le hr.1 hr.2.1).mp hy))) (fun hn => K2 (fun z => hn ((nu_le hr.1 hr.2.1).mpr (of_decide_eq_true z))))
  · cases hs
theorem mv_w_tableswitch {c c' : mv_C} {h' : mv_H} {pc' : Nat} {ls' st' : List mv_V} {d lo hi : Int} {offs : Array Int} (X : mv_Cx p l m args meth cd y D bs base L xs s) (hg : mv_get (mv_m y).1 pc = some (.tableswitch d lo hi offs, a)) (hs : mv_step ((L : Int), fun j => (xs j.toNat).toInt) pc (.tableswitch d lo hi offs) a ls st c h = some (pc', ls', st', c', h'))
    (rel : mv_Rl D s bs base ι c.1 h H locs (mv_m y).2.2.1 lsr str ls st) (hcs : cells + (c'.2.1 - c.2.1) ≤ R.cells) (hss : slots + (c'.2.2 - c.2.2) ≤ R.slots)
    (K : ∀ (H1 : Heap) (locs1 : List Loc) (ι1 : Int → Nat) (lsr1 : Array Slot) (str1 : List Value), mv_Rl D s bs base ι1 c'.1 h' H1 locs1 (mv_m y).2.2.1 lsr1 str1 ls' st' → (∀ j : Int, 0 ≤ j → j < c.1 → ι1 j = ι j) → W p l e R s m args below meth cd H1 locs1 (cells + (c'.2.1 - c.2.1)) (slots + (c'.2.2 - c.2.2)) Q (F0 m pc' lsr1 str1)) : W p l e R s m args below meth cd H locs cells slots Q (F0 m pc lsr str) := by
  obtain ⟨hx, hb, hml, hret, hlk, hown, hnm, hxt, hst0, hF⟩ := id X
  obtain ⟨ws, hP, hD, hS, hw, hl, hst⟩ := rel
  have hd := mv_dec hg
  simp only [mv_step] at hs
  split at hs
  · rename_i x1 r
    obtain ⟨q1, rfl, hst1⟩ := mv_rs_i hst
    split at hs
    · rename_i hr
      have ht := nu_ti hr
      split at hs
      · rename_i hc
        obtain ⟨t, h1, h2⟩ := mv_jmp_spec hs
        cases h2
        have K0 : ∀ lsr1 str1, mv_rl ι c.1 bs ls (mv_m y).2.2.1 lsr1 → mv_rs ι c.1 bs st' str1 → W p l e R s m args below meth cd H locs cells slots Q (F0 m pc' lsr1 str1) := fun lsr1 str1 r1 r2 => by
          have := K H locs ι lsr1 str1 ⟨ws, hP, hD, hS, hw, r1, r2⟩ (fun _ _ _ => rfl)
          simpa only [Nat.sub_self, Nat.add_zero] using this
        exact lv_tableOut hx hb hd (by rw [ht]; exact hc) h1 (K0 _ _ hl hst1)
      · rename_i hc
        split at hs
        · rename_i off hoff
          obtain ⟨t, h1, h2⟩ := mv_jmp_spec hs
          cases h2
          have K0 : ∀ lsr1 str1, mv_rl ι c.1 bs ls (mv_m y).2.2.1 lsr1 → mv_rs ι c.1 bs st' str1 → W p l e R s m args below meth cd H locs cells slots Q (F0 m pc' lsr1 str1) := fun lsr1 str1 r1 r2 => by
            have := K H locs ι lsr1 str1 ⟨ws, hP, hD, hS, hw, r1, r2⟩ (fun _ _ _ => rfl)
            simpa only [Nat.sub_self, Nat.add_zero] using this
          exact lv_tableIn hx hb hd (by rw [ht]; omega) (by rw [ht]; omega) (by rw [ht]; exact hoff) h1 (K0 _ _ hl hst1)
        · cases hs
    · cases hs
  · cases hs
end STP
