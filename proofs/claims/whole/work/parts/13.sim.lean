/-! the whole run of a method: by induction on the small machine's steps, calls among them -/
def mv_QC (D : va_G) (bs base : Nat) (ι0 : Int → Nat) (n0 : Nat) (r : mv_R) (c' : mv_C) (h' : mv_H) : Array Value → State → Outcome → State → Prop := fun _ st o t =>
  ∃ (ι' : Int → Nat) (ws' : va_W), (∀ j : Int, 0 ≤ j → j < n0 → ι' j = ι0 j) ∧ n0 ≤ c'.1 ∧ va_P D mv_cl ws' t.heap ∧ va_D (mv_A base) ws' ∧ mv_w t ι' c'.1 h' ws' ∧ va_F (mv_A base) st t ∧
    ((r.1 = 3 ∧ o = .returned none) ∨ (r.1 < 3 ∧ ∃ x, o = .returned (some x) ∧ mv_rv ι' c'.1 bs r x))
def mv_XC (D : va_G) (base : Nat) (ι0 : Int → Nat) (n0 : Nat) (r : mv_R) (c' : mv_C) (h' : mv_H) : String → State → State → Prop := fun E st t =>
  r.1 = 4 ∧ E = mv_xn r.2.toNat ∧ ∃ (ι' : Int → Nat) (ws' : va_W), (∀ j : Int, 0 ≤ j → j < n0 → ι' j = ι0 j) ∧ n0 ≤ c'.1 ∧ va_P D mv_cl ws' t.heap ∧ va_D (mv_A base) ws' ∧ mv_w t ι' c'.1 h' ws' ∧ va_F (mv_A base) st t
def mv_Sim (l : Launch) (D : va_G) (bs base L : Nat) (xs : Nat → Int32) (N : Nat) : Prop :=
  ∀ (y pc : Nat) (ls st : List mv_V) (c : mv_C) (h : mv_H) (r : mv_R) (c' : mv_C) (h' : mv_H), mv_run ((L : Int), fun j => (xs j.toNat).toInt) N y pc ls st c h = some (r, c', h') →
  ∀ (p : Program) (e : Env) (R : Room) (s : State) (m : MethodId) (args : Array Value) (below : List Frame) (meth : Method) (cd : Code) (H : Heap) (locs : List Loc) (cells slots mc ms : Nat) (ι : Int → Nat) (lsr : Array Slot) (str : List Value) (ι0 : Int → Nat) (n0 : Nat),
    mv_Cx p l m args meth cd y D bs base L xs s → mv_fr y ≤ R.frames → mv_lo y ≤ R.locals → mv_Rl D s bs base ι c.1 h H locs (mv_m y).2.2.1 lsr str ls st → (∀ j : Int, 0 ≤ j → j < n0 → ι j = ι0 j) → n0 ≤ c.1 →
    cells + (c'.2.1 - c.2.1) ≤ mc → slots + (c'.2.2 - c.2.2) ≤ ms → mc ≤ R.cells → ms ≤ R.slots →
    W p l e R s m args below meth cd H locs cells slots (vx_MQ below (mv_QC D bs base ι0 n0 r c' h') (mv_XC D base ι0 n0 r c' h') args s mc ms (mv_A base)) (F0 m pc lsr str)
theorem mv_y206 {y pc : Nat} {q : Instr × Int} (hg : mv_get (mv_m y).1 pc = some q) : y < 206 := by
  by_cases hy : y < 206
  · exact hy
  · have : (mv_m y).1 = [] := by
      unfold mv_m
      rw [List.getD_eq_getElem?_getD, List.getElem?_eq_none (Nat.not_lt.mp hy)]; rfl
    rw [this] at hg
    cases hg
theorem mv_all {P : Nat → Bool} (h : (List.range 206).all P = true) {y : Nat} (hy : y < 206) : P y = true := List.all_eq_true.mp h y (List.mem_range.mpr hy)
/-- a contract out of a walk, whatever the class -/
theorem mv_ofW {l : Launch} {y : MethodName} {w0 : Cond} {rm : Room} {Pc : Array Value → State → Prop} {Qc : Array Value → State → Outcome → State → Prop} {XC : String → State → State → Prop} {mc ms : Nat} {free : Addr → Prop} {cc : ByteArray} {maxL : Nat} {ret : Option FieldType} {hh : List (Nat × Nat × Nat × Nat)}
    (hy : plainFor y = true) (hw : (w0 = Cond.code y cc maxL ret ∧ hh = []) ∨ w0 = Cond.codeWith y cc maxL ret hh)
    (body : ∀ p e s m args below meth c s₁, BodyLoose p l y (headSpec [w0] rm) cc maxL ret e s m args below meth c s₁ → c.maxLocals = maxL → c.exceptionTable.toList = tableOf hh → Pc args s →
      W p l e (headSpec [w0] rm).room s m args below meth c s.heap [] 0 0 (vx_MQ below Qc XC args s mc ms free) (entryFrame m args maxL)) : vx_Met l y [w0] rm Pc Qc XC mc ms free := by
  rcases hw with ⟨rfl, rfl⟩ | rfl
  · refine MetFree.of_bodySF (code := cc) (maxLocals := maxL) (ret := ret) hy ?_ ?_
    · intro args s m h hn
      obtain ⟨meth, c, h1, h2, h3, h4, h5, h6, -, -⟩ := Cond.code_spec hn (atoms_spec (ws := [Cond.code y cc maxL ret]) h _ List.mem_cons_self)
      exact ⟨meth, c, h1, h2, h3, h4, h5, h6⟩
    · intro p e s m args below meth c s₁ B hml hP _
      have hh0 : s₁.heap = s.heap := by rw [B.state]; rfl
      have ht : c.exceptionTable.toList = tableOf [] := by
        obtain ⟨meth9, c9, h1, h2, -, -, -, -, h7, -⟩ := Cond.code_spec B.named (atoms_spec (ws := [Cond.code y cc maxL ret]) B.pre _ List.mem_cons_self)
        cases Option.some.inj (h1.symm.trans B.method)
        cases Option.some.inj (h2.symm.trans (Stand.of_body B).code)
        rw [Array.isEmpty_iff.mp h7]; rfl
      obtain ⟨t, a1, o, b1, b2, b3⟩ := body p e s m args below meth c s₁ B hml ht hP s₁ hh0 (Stand.of_body B)
      exact ⟨t, o, a1, b1, b2, b3⟩
  · refine MetFree.of_bodySF (code := cc) (maxLocals := maxL) (ret := ret) hy ?_ ?_
    · intro args s m h hn
      obtain ⟨m9, meth, c, hn9, h1, h2, h3, h4, -, h5, h6, -⟩ := Cond.codeWith_spec (atoms_spec (ws := [Cond.codeWith y cc maxL ret hh]) h _ List.mem_cons_self)
      cases hn.symm.trans hn9
      exact ⟨meth, c, h1, h2, h3, h4, h5, h6⟩
    · intro p e s m args below meth c s₁ B hml hP _
      have hh0 : s₁.heap = s.heap := by rw [B.state]; rfl
      have ht : c.exceptionTable.toList = tableOf hh := vx_table (x := y) B (atoms_spec (ws := [Cond.codeWith y cc maxL ret hh]) B.pre _ List.mem_cons_self)
      obtain ⟨t, a1, o, b1, b2, b3⟩ := body p e s m args below meth c s₁ B hml ht hP s₁ hh0 (Stand.of_body B)
      exact ⟨t, o, a1, b1, b2, b3⟩
theorem mv_rs_app {ι : Int → Nat} {n bs : Nat} : ∀ (k : Nat) (st : List mv_V) (str : List Value), k ≤ st.length → mv_rs ι n bs st str → ∃ vs q, str = vs ++ q ∧ vs.length = k ∧ mv_rs ι n bs (st.take k) vs ∧ mv_rs ι n bs (st.drop k) q
  | 0, st, str, _, h => ⟨[], str, rfl, rfl, trivial, h⟩
  | k + 1, v :: r, x :: q, hk, h => by
    obtain ⟨vs, q2, h1, h2, h3, h4⟩ := mv_rs_app k r q (by simpa using hk) h.2
    exact ⟨x :: vs, q2, by rw [h1]; rfl, by rw [List.length_cons, h2], ⟨h.1, h3⟩, h4⟩
  | k + 1, [], _, hk, _ => by simp at hk
  | k + 1, _ :: _, [], _, h => h.elim
theorem mv_rs_cat {ι : Int → Nat} {n bs : Nat} : ∀ (a b : List mv_V) (x y : List Value), mv_rs ι n bs a x → mv_rs ι n bs b y → mv_rs ι n bs (a ++ b) (x ++ y)
  | [], b, [], y, _, h => h
  | v :: r, b, x :: q, y, h, h2 => ⟨h.1, mv_rs_cat r b q y h.2 h2⟩
  | [], _, _ :: _, _, h, _ => h.elim
  | _ :: _, _, [], _, h, _ => h.elim
theorem mv_rs_rev {ι : Int → Nat} {n bs : Nat} : ∀ (a : List mv_V) (x : List Value), mv_rs ι n bs a x → mv_rs ι n bs a.reverse x.reverse
  | [], [], _ => trivial
  | v :: r, x :: q, h => by
    rw [List.reverse_cons, List.reverse_cons]
    exact mv_rs_cat _ _ _ _ (mv_rs_rev r q h.2) ⟨h.1, trivial⟩
  | [], _ :: _, h => h.elim
  | _ :: _, [], h => h.elim
theorem mv_rs_len {ι : Int → Nat} {n bs : Nat} : ∀ (a : List mv_V) (x : List Value), mv_rs ι n bs a x → x.length = a.length
  | [], [], _ => rfl
  | v :: r, x :: q, h => by rw [List.length_cons, List.length_cons, mv_rs_len r q h.2]
  | [], _ :: _, h => h.elim
  | _ :: _, [], h => h.elim
theorem mv_rs_sum : ∀ (x : List Value), (x.map fun v => v.category).sum ≤ 2 * x.length
  | [] => Nat.le_refl _
  | v :: q => by
    rw [List.map_cons, List.sum_cons, List.length_cons]
    have := mv_rs_sum q
    rcases lv_cat v with h | h <;> omega
theorem mv_rv_cat2 {ι : Int → Nat} {n bs : Nat} {v : mv_V} {x : Value} (h : mv_rv ι n bs v x) : (x.category = 2 ↔ v.1 = 1) := by
  constructor
  · intro h2
    by_cases h1 : v.1 = 1
    · exact h1
    · rw [mv_rv_cat h h1] at h2; omega
  · intro h1
    rw [mv_v1 h1] at h
    cases h; rfl
theorem mv_ents_sl {ι : Int → Nat} {n bs : Nat} : ∀ (a : List mv_V) (x : List Value), mv_rs ι n bs a x → (lg_sl x).length = (mv_ents a).length
  | [], [], _ => rfl
  | v :: r, x :: q, h => by
    have ih := mv_ents_sl r q h.2
    have hc := mv_rv_cat2 h.1
    have e1 : lg_sl (x :: q) = (if x.category = 2 then [.val x, .second] else [.val x]) ++ lg_sl q := rfl
    rw [e1]
    unfold mv_ents
    by_cases h1 : v.1 = 1
    · rw [if_pos (hc.mpr h1), if_pos h1, List.length_append, ih]
      simp only [List.length_cons, List.length_nil]; omega
    · rw [if_neg (fun z => h1 (hc.mp z)), if_neg h1, List.length_append, ih]
      simp only [List.length_cons, List.length_nil]; omega
  | [], _ :: _, h => h.elim
  | _ :: _, [], h => h.elim
theorem mv_ents_at {ι : Int → Nat} {n bs : Nat} : ∀ (a : List mv_V) (x : List Value) (k : Nat), mv_rs ι n bs a x → ∀ (i : Nat) (v : mv_V), (mv_ents a)[i]? = some v → v.1 ≠ 5 → ∃ z, (k + i, z) ∈ lv_args k x ∧ mv_rv ι n bs v z
  | [], [], _, _, i, v, hv, _ => by simp [mv_ents] at hv
  | w :: r, x :: q, k, h, i, v, hv, h5 => by
    have hc := mv_rv_cat2 h.1
    unfold mv_ents at hv
    unfold lv_args
    by_cases h1 : w.1 = 1
    · rw [if_pos h1] at hv
      rw [if_pos (hc.mpr h1)]
      match i, hv with
      | 0, hv => cases hv; exact ⟨x, List.mem_cons_self, h.1⟩
      | 1, hv => cases hv; exact absurd rfl h5
      | i + 2, hv =>
        obtain ⟨z, h2, h3⟩ := mv_ents_at r q (k + 2) h.2 i v hv h5
        exact ⟨z, List.mem_cons_of_mem _ (by rw [show k + (i + 2) = k + 2 + i by omega]; exact h2), h3⟩
    · rw [if_neg h1] at hv
      rw [if_neg (fun z => h1 (hc.mp z))]
      match i, hv with
      | 0, hv => cases hv; exact ⟨x, List.mem_cons_self, h.1⟩
      | i + 1, hv =>
        obtain ⟨z, h2, h3⟩ := mv_ents_at r q (k + 1) h.2 i v hv h5
        exact ⟨z, List.mem_cons_of_mem _ (by rw [show k + (i + 1) = k + 1 + i by omega]; exact h2), h3⟩
  | [], _ :: _, _, h, _, _, _, _ => h.elim
  | _ :: _, [], _, h, _, _, _, _ => h.elim
/-- the locals at a method's entry -/
theorem mv_rl_ent {ι : Int → Nat} {n bs : Nat} {a : List mv_V} {x : List Value} {nL : Nat} (h : mv_rs ι n bs a x) (hn : (mv_ents a).length ≤ nL) : mv_rl ι n bs (mv_ent a nL) nL ((lg_sl x ++ List.replicate (nL - (lg_sl x).length) Slot.unset).toArray) := by
  refine ⟨?_, lv_args 0 x, lv_entry x (by rw [mv_ents_sl a x h]; exact hn), fun i v hv h5 => ?_⟩
  · unfold mv_ent
    rw [List.length_append, List.length_replicate]; omega
  · unfold mv_ent at hv
    by_cases hi : i < (mv_ents a).length
    · rw [List.getElem?_append_left hi] at hv
      obtain ⟨z, h1, h2⟩ := mv_ents_at a x 0 h i v hv h5
      rw [Nat.zero_add] at h1
      exact ⟨z, h1, h2⟩
    · rw [List.getElem?_append_right (Nat.not_lt.mp hi)] at hv
      have := List.mem_of_getElem? hv
      rw [List.mem_replicate] at this
      rw [this.2] at h5
      exact absurd rfl h5
