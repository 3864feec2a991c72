/-! what the real machine's frame, heap and tables are to the small machine's -/
def mv_rv (ι : Int → Nat) (n bs : Nat) (v : mv_V) (x : Value) : Prop := match v with
  | (0, z) => x = .int (Int32.ofInt z)
  | (1, z) => x = .long (Int64.ofInt z)
  | (2, a) => 0 ≤ a ∧ a < n ∧ x = .ref (ι a)
  | (3, _) => ∃ q, x = .ref q
  | (4, _) => x = .ref bs
  | _ => False
def mv_rs (ι : Int → Nat) (n bs : Nat) : List mv_V → List Value → Prop
  | [], [] => True
  | v :: r, x :: q => mv_rv ι n bs v x ∧ mv_rs ι n bs r q
  | [], _ :: _ => False
  | _ :: _, [] => False
def mv_rl (ι : Int → Nat) (n bs : Nat) (ls : List mv_V) (nL : Nat) (lsr : Array Slot) : Prop :=
  ls.length = nL ∧ ∃ lv : List (Nat × Value), lv_has lsr nL lv ∧ ∀ (i : Nat) (v : mv_V), ls[i]? = some v → v.1 ≠ 5 → ∃ x, (i, x) ∈ lv ∧ mv_rv ι n bs v x
def mv_rf (ι : Int → Nat) (n ty : Nat) (z : Int) (v : Value) : Prop := if ty = 0 then v = .int (Int32.ofInt z) else ((0 ≤ z ∧ z < n ∧ v = .ref (ι z)) ∨ (z < 0 ∧ v = .null))
def mv_kt (k : Nat) : FieldType := match k with
  | 10 => .int
  | 11 => .char
  | 12 => .boolean
  | 13 => .long
  | 14 => .object "LineTemplates$Line"
  | _ => .object "LineTemplates$State"
def mv_rc0 (ι : Int → Nat) (n k N : Nat) (f : Int → Int) (x : vp_A) : Prop :=
  x.1 = N ∧ ((k < 13 ∧ ∃ g : Nat → Int32, x.2 = .inl g ∧ ∀ j : Nat, j < N → g j = Int32.ofInt (f j)) ∨
  (k = 13 ∧ ∃ g : Nat → Int64, x.2 = .inr (.inl g) ∧ ∀ j : Nat, j < N → g j = Int64.ofInt (f j)) ∨
  (13 < k ∧ ∃ g : Nat → Option Nat, x.2 = .inr (.inr (.inr (.inr g))) ∧ ∀ j : Nat, j < N → (0 ≤ f j ∧ f j < n ∧ g j = some (ι (f j))) ∨ (f j < 0 ∧ g j = none)))
def mv_ro (s : State) (ι : Int → Nat) (n : Nat) (o : mv_O) (e : va_E) : Prop :=
  (o.1 < 5 ∧ ∃ fs : List Value, e = .inr (o.1, fs) ∧ fs.length = mv_fn o.1 ∧ ∀ k : Nat, k < mv_fn o.1 → ∃ v, fs[k]? = some v ∧ mv_rf ι n (mv_ft o.1 k) (o.2.2 k) v) ∨
  (10 ≤ o.1 ∧ o.1 ≤ 15 ∧ ∃ (cA : ClassId) (N : Nat) (x : vp_A), e = .inl (cA, x) ∧ o.2.1 = N ∧ N ≤ 100000 ∧ ArrOfT s cA (mv_kt o.1) ∧ va_RA s cA (mv_kt o.1) ∧ mv_rc0 ι n o.1 N o.2.2 x)
def mv_w (s : State) (ι : Int → Nat) (n : Nat) (h : mv_H) (ws : va_W) : Prop :=
  ws.length = n ∧ ∀ i : Nat, i < n → ∃ e, ws[i]? = some (ι i, e) ∧ mv_ro s ι n (h i) e
def mv_A (base : Nat) : Nat → Prop := fun q => base ≤ q
def mv_G : List Cond := lw_tbl.filter goodWord
def mv_nw (w : Cond) : Bool := match w with
  | .methodLinkNest _ _ _ _ => true
  | .fieldLinkNest _ _ _ _ _ _ => true
  | .declares _ => true
  | .castable _ _ => true
  | _ => false
def mv_str : List (Nat × String) := [(60, "no character code"), (67, "the text is full"), (101, "no such number of the log"), (126, "no such number of a line"), (128, "the index is negative"), (158, "no such number of a template"), (174, "no such number of a piece"), (179, "the text is not a line"), (184, "there is no room for the line"), (204, "the piece is no fixed word"), (214, "the lines need too many templates"), (222, "no state is remembered"), (238, "no value of a number"), (243, "no such number of commands"), (251, "the script has not the digits of its commands"), (259, "no such number of lines"), (273, "nothing has been saved in the slot"), (280, "no such line"), (283, "no such template"), (285, "no such piece"), (287, "no such save slot")]
def mv_xns : List String := ["java/lang/RuntimeException", "java/lang/Exception"]
/-- what holds of the tables, the script and the JDK's statics at every frame -/
def mv_Fx (D : va_G) (bs base L : Nat) (xs : Nat → Int32) (s : State) : Prop :=
  (∀ w ∈ mv_G, ∀ a : Array Value, w.before a s = true) ∧ (∀ w ∈ lw_tbl, mv_nw w = true → va_Nw w s) ∧ va_K D mv_cl [] s ∧ (base ≤ s.heap.size ∧ bs < base ∧ va_X bs L xs s s.heap) ∧
  (vx_Zq Bundle.tN "UNASSIGNED_STACK" Bundle.steD (mv_A base) s s.heap ∧ vx_Zq Bundle.tN "SUPPRESSED_SENTINEL" Bundle.listD (mv_A base) s s.heap) ∧
  (∀ q ∈ mv_str, ∃ a, vk_R "LineTemplates" q.1 q.2 a s) ∧ (∀ i j : Nat, i < 3 → j < 3 → i ≠ j → va_Nc (mv_xn i) (mv_xn j) s) ∧ (va_AO "LineTemplates$Line" s ∧ va_AO "LineTemplates$State" s)
theorem mv_Fx.moved {D : va_G} {bs base L : Nat} {xs : Nat → Int32} {s U : State} {locs : List Loc} (h : mv_Fx D bs base L xs s) (hW : s.WarmedH U.vm) (hS : va_S (mv_A base) s.heap U.heap locs) : mv_Fx D bs base L xs U := by
  obtain ⟨h1, h2, h3, ⟨h4, h5, h6⟩, ⟨h7, h8⟩, h9, h10, h11, h12⟩ := h
  have hb : ¬ mv_A base bs := Nat.not_le.mpr h5
  have hbs : bs < s.heap.size := Nat.lt_of_lt_of_le h5 h4
  refine ⟨fun w hw a => ?_, fun w hw hn => ?_, va_K.moved hW.alike h3, ⟨Nat.le_trans h4 hS.1, h5, va_X.moved hW.alike (h6.kept (hS.2.1 bs hbs hb))⟩, ⟨vx_Zq.moved hW.alike (h7.kept hS.2.1), vx_Zq.moved hW.alike (h8.kept hS.2.1)⟩, fun q hq => ?_, fun i j hi hj hij => va_Nc.moved hW.alike (h10 i j hi hj hij), ?_, ?_⟩
  · exact word_at hW (good_of_word (List.mem_filter.mp hw).2) (h1 w hw a)
  · have hz := h2 w hw hn
    cases w <;> simp only [mv_nw] at hn <;> first | (cases hn; done) | exact va_Nw.warmM hW hz | exact va_Nw.warmF hW hz | exact va_Nw.warmD hW hz | exact va_Nw.warmC hW hz
  · obtain ⟨a, ha⟩ := h9 q hq
    exact ⟨a, vk_R.warm hW ha⟩
  · exact va_AO.moved hW.alike h11
  · exact va_AO.moved hW.alike h12
def mv_Cx (p : Program) (l : Launch) (m : MethodId) (args : Array Value) (meth : Method) (cd : Code) (y : Nat) (D : va_G) (bs base L : Nat) (xs : Nat → Int32) (s : State) : Prop :=
  p.tables.exec = Jvm.exec ∧ cd.code = mv_by y ∧ cd.maxLocals = (mv_m y).2.2.1 ∧ meth.sig.returnType = mv_rt y ∧ meth.locks = false ∧ s.vm.findClass (mv_ow y) = some m.cls ∧ ((mv_y y).name = "<init>" → meth.name = "<init>") ∧
  (cd.exceptionTable.toList = tableOf (mv_hh y)) ∧ l.stackTraces = false ∧ mv_Fx D bs base L xs s
/-- the frame and the heap of the one and of the other -/
def mv_Rl (D : va_G) (s : State) (bs base : Nat) (ι : Int → Nat) (n : Nat) (h : mv_H) (H : Heap) (locs : List Loc) (nL : Nat) (lsr : Array Slot) (str : List Value) (ls st : List mv_V) : Prop :=
  ∃ ws : va_W, va_P D mv_cl ws H ∧ va_D (mv_A base) ws ∧ va_S (mv_A base) s.heap H locs ∧ mv_w s ι n h ws ∧ mv_rl ι n bs ls nL lsr ∧ mv_rs ι n bs st str
theorem mv_rs_c {ι : Int → Nat} {n bs : Nat} {v : mv_V} {r : List mv_V} {str : List Value} (h : mv_rs ι n bs (v :: r) str) : ∃ x q, str = x :: q ∧ mv_rv ι n bs v x ∧ mv_rs ι n bs r q := by
  cases str with
  | nil => exact h.elim
  | cons x q => exact ⟨x, q, rfl, h.1, h.2⟩
theorem mv_rs_n {ι : Int → Nat} {n bs : Nat} {str : List Value} (h : mv_rs ι n bs [] str) : str = [] := by
  cases str with
  | nil => rfl
  | cons x q => exact h.elim
theorem mv_rs_i {ι : Int → Nat} {n bs : Nat} {z : Int} {r : List mv_V} {str : List Value} (h : mv_rs ι n bs ((0, z) :: r) str) : ∃ q, str = .int (Int32.ofInt z) :: q ∧ mv_rs ι n bs r q := by
  obtain ⟨x, q, rfl, h1, h2⟩ := mv_rs_c h
  cases h1
  exact ⟨q, rfl, h2⟩
theorem mv_rs_j {ι : Int → Nat} {n bs : Nat} {z : Int} {r : List mv_V} {str : List Value} (h : mv_rs ι n bs ((1, z) :: r) str) : ∃ q, str = .long (Int64.ofInt z) :: q ∧ mv_rs ι n bs r q := by
  obtain ⟨x, q, rfl, h1, h2⟩ := mv_rs_c h
  cases h1
  exact ⟨q, rfl, h2⟩
theorem mv_rs_r {ι : Int → Nat} {n bs : Nat} {z : Int} {r : List mv_V} {str : List Value} (h : mv_rs ι n bs ((2, z) :: r) str) : ∃ q, str = .ref (ι z) :: q ∧ 0 ≤ z ∧ z < n ∧ mv_rs ι n bs r q := by
  obtain ⟨x, q, rfl, h1, h2⟩ := mv_rs_c h
  obtain ⟨h3, h4, rfl⟩ := h1
  exact ⟨q, rfl, h3, h4, h2⟩
theorem mv_rs_s {ι : Int → Nat} {n bs : Nat} {z : Int} {r : List mv_V} {str : List Value} (h : mv_rs ι n bs ((4, z) :: r) str) : ∃ q, str = .ref bs :: q ∧ mv_rs ι n bs r q := by
  obtain ⟨x, q, rfl, h1, h2⟩ := mv_rs_c h
  cases h1
  exact ⟨q, rfl, h2⟩
theorem mv_rv_cat {ι : Int → Nat} {n bs : Nat} {v : mv_V} {x : Value} (h : mv_rv ι n bs v x) (h1 : v.1 ≠ 1) : x.category = 1 := by
  obtain ⟨t, z⟩ := v
  match t, h, h1 with
  | 0, h, _ => cases h; rfl
  | 1, _, h1 => exact absurd rfl h1
  | 2, h, _ => obtain ⟨-, -, rfl⟩ := h; rfl
  | 3, h, _ => obtain ⟨q, rfl⟩ := h; rfl
  | 4, h, _ => cases h; rfl
  | t + 5, h, _ => exact h.elim
theorem mv_rv_ref {ι : Int → Nat} {n bs : Nat} {v : mv_V} {x : Value} (h : mv_rv ι n bs v x) (h1 : v.1 = 2 ∨ v.1 = 3 ∨ v.1 = 4) : ∃ q, x = .ref q := by
  obtain ⟨t, z⟩ := v
  match t, h, h1 with
  | 0, _, h1 => simp at h1
  | 1, _, h1 => simp at h1
  | 2, h, _ => obtain ⟨-, -, rfl⟩ := h; exact ⟨_, rfl⟩
  | 3, h, _ => exact h
  | 4, h, _ => exact ⟨_, h⟩
  | t + 5, h, _ => exact h.elim
theorem mv_rv_up {ι ι' : Int → Nat} {n n' bs : Nat} {v : mv_V} {x : Value} (hi : ∀ i : Int, 0 ≤ i → i < n → ι' i = ι i) (hn : n ≤ n') (h : mv_rv ι n bs v x) : mv_rv ι' n' bs v x := by
  obtain ⟨t, z⟩ := v
  match t, h with
  | 0, h => exact h
  | 1, h => exact h
  | 2, h => obtain ⟨h1, h2, h3⟩ := h; exact ⟨h1, by omega, by rw [hi z h1 h2]; exact h3⟩
  | 3, h => exact h
  | 4, h => exact h
  | t + 5, h => exact h.elim
theorem mv_rs_up {ι ι' : Int → Nat} {n n' bs : Nat} (hi : ∀ i : Int, 0 ≤ i → i < n → ι' i = ι i) (hn : n ≤ n') : ∀ (st : List mv_V) (str : List Value), mv_rs ι n bs st str → mv_rs ι' n' bs st str
  | [], [], _ => trivial
  | v :: r, x :: q, h => ⟨mv_rv_up hi hn h.1, mv_rs_up hi hn r q h.2⟩
  | [], _ :: _, h => h.elim
  | _ :: _, [], h => h.elim
theorem mv_rl_up {ι ι' : Int → Nat} {n n' bs : Nat} (hi : ∀ i : Int, 0 ≤ i → i < n → ι' i = ι i) (hn : n ≤ n') {ls : List mv_V} {nL : Nat} {lsr : Array Slot} (h : mv_rl ι n bs ls nL lsr) : mv_rl ι' n' bs ls nL lsr := by
  obtain ⟨h1, lv, h2, h3⟩ := h
  exact ⟨h1, lv, h2, fun i v hv h5 => by obtain ⟨x, hx, hr⟩ := h3 i v hv h5; exact ⟨x, hx, mv_rv_up hi hn hr⟩⟩
theorem mv_rf_up {ι ι' : Int → Nat} {n n' ty : Nat} (hi : ∀ i : Int, 0 ≤ i → i < n → ι' i = ι i) (hn : n ≤ n') {z : Int} {v : Value} (h : mv_rf ι n ty z v) : mv_rf ι' n' ty z v := by
  unfold mv_rf at *
  split at h
  · rw [if_pos ‹_›]; exact h
  · rw [if_neg ‹_›]
    rcases h with ⟨h1, h2, h3⟩ | h
    · exact Or.inl ⟨h1, by omega, by rw [hi z h1 h2]; exact h3⟩
    · exact Or.inr h
theorem mv_ro_up {s : State} {ι ι' : Int → Nat} {n n' : Nat} (hi : ∀ i : Int, 0 ≤ i → i < n → ι' i = ι i) (hn : n ≤ n') {o : mv_O} {e : va_E} (h : mv_ro s ι n o e) : mv_ro s ι' n' o e := by
  rcases h with ⟨h1, fs, h2, h3, h4⟩ | ⟨h1, h2, cA, N, x, h3, h4, h5, h6, h7, h8, h9⟩
  · exact Or.inl ⟨h1, fs, h2, h3, fun k hk => by obtain ⟨v, hv, hf⟩ := h4 k hk; exact ⟨v, hv, mv_rf_up hi hn hf⟩⟩
  · refine Or.inr ⟨h1, h2, cA, N, x, h3, h4, h5, h6, h7, h8, ?_⟩
    rcases h9 with h9 | h9 | ⟨hk, g, hg, h9⟩
    · exact Or.inl h9
    · exact Or.inr (Or.inl h9)
    · refine Or.inr (Or.inr ⟨hk, g, hg, fun j hj => ?_⟩)
      rcases h9 j hj with ⟨a1, a2, a3⟩ | h
      · exact Or.inl ⟨a1, by omega, by rw [hi _ a1 a2]; exact a3⟩
      · exact Or.inr h
theorem mv_ro_mv {s U : State} (hvm : s.vm.Alike U.vm) {ι : Int → Nat} {n : Nat} {o : mv_O} {e : va_E} (h : mv_ro s ι n o e) : mv_ro U ι n o e := by
  rcases h with h | ⟨h1, h2, cA, N, x, h3, h4, h5, h6, h7, h8⟩
  · exact Or.inl h
  · exact Or.inr ⟨h1, h2, cA, N, x, h3, h4, h5, arrOfT_moved hvm h6, h7.moved hvm, h8⟩
theorem mv_w_mv {s U : State} (hvm : s.vm.Alike U.vm) {ι : Int → Nat} {n : Nat} {h : mv_H} {ws : va_W} (hw : mv_w s ι n h ws) : mv_w U ι n h ws :=
  ⟨hw.1, fun i hi => by obtain ⟨e, h1, h2⟩ := hw.2 i hi; exact ⟨e, h1, mv_ro_mv hvm h2⟩⟩
/-- an object of the small heap in the world -/
theorem mv_w_at {s : State} {ι : Int → Nat} {n : Nat} {h : mv_H} {ws : va_W} (hw : mv_w s ι n h ws) {a : Int} (h0 : 0 ≤ a) (h1 : a < n) : ∃ e, ws[a.toNat]? = some (ι a, e) ∧ mv_ro s ι n (h a) e := by
  obtain ⟨e, h2, h3⟩ := hw.2 a.toNat (by omega)
  rw [Int.toNat_of_nonneg h0] at h2 h3
  exact ⟨e, h2, h3⟩
/-- one object written -/
theorem mv_w_set {s : State} {ι : Int → Nat} {n : Nat} {h : mv_H} {ws : va_W} (hw : mv_w s ι n h ws) {a : Int} (h0 : 0 ≤ a) (h1 : a < n) {o : mv_O} {e : va_E} (hr : mv_ro s ι n o e) : mv_w s ι n (mv_uo h a o) (ws.set a.toNat (ι a, e)) := by
  refine ⟨by rw [List.length_set]; exact hw.1, fun i hi => ?_⟩
  by_cases hia : i = a.toNat
  · subst hia
    refine ⟨e, ?_, ?_⟩
    · rw [List.getElem?_set_self (by rw [hw.1]; exact hi), Int.toNat_of_nonneg h0]
    · rw [Int.toNat_of_nonneg h0]; unfold mv_uo; rw [if_pos rfl]; exact hr
  · obtain ⟨e1, h2, h3⟩ := hw.2 i hi
    refine ⟨e1, ?_, ?_⟩
    · rw [List.getElem?_set_ne (fun hx => hia hx.symm)]; exact h2
    · unfold mv_uo; rw [if_neg (by omega)]; exact h3
/-- one object made -/
theorem mv_w_push {s : State} {ι : Int → Nat} {n : Nat} {h : mv_H} {ws : va_W} (hw : mv_w s ι n h ws) {q : Nat} {o : mv_O} {e : va_E} (hr : mv_ro s (fun i => if i = n then q else ι i) (n + 1) o e) :
    mv_w s (fun i => if i = n then q else ι i) (n + 1) (mv_uo h n o) (ws ++ [(q, e)]) := by
  refine ⟨by rw [List.length_append, hw.1]; rfl, fun i hi => ?_⟩
  by_cases hin : i = n
  · subst hin
    refine ⟨e, ?_, ?_⟩
    · rw [List.getElem?_append_right (by rw [hw.1]; exact Nat.le_refl _), hw.1, Nat.sub_self]; show some (q, e) = some (if (i : Int) = i then q else ι i, e); rw [if_pos rfl]
    · unfold mv_uo; rw [if_pos rfl]; exact hr
  · obtain ⟨e1, h2, h3⟩ := hw.2 i (by omega)
    refine ⟨e1, ?_, ?_⟩
    · rw [List.getElem?_append_left (by rw [hw.1]; omega)]; show ws[i]? = some (if (i : Int) = n then q else ι i, e1); rw [if_neg (by omega)]; exact h2
    · unfold mv_uo; rw [if_neg (by omega)]
      exact mv_ro_up (fun j _ hj => if_neg (by omega)) (by omega) h3
theorem mv_dec {y pc : Nat} {i : Instr} {a : Int} (hg : mv_get (mv_m y).1 pc = some (i, a)) : decode (mv_by y) pc = .ok (i, mv_len i a) := by
  have hd : mv_dk (mv_by y) (mv_m y).1 = true := by
    by_cases hy : y < 206
    · exact mv_dkA y hy
    · have : (mv_m y).1 = [] := by
        unfold mv_m
        rw [List.getD_eq_getElem?_getD, List.getElem?_eq_none (Nat.not_lt.mp hy)]; rfl
      rw [this]; rfl
  generalize (mv_m y).1 = k at hg hd
  induction k with
  | nil => cases hg
  | cons q k ih =>
    obtain ⟨q0, i0, a0⟩ := q
    simp only [mv_dk, List.all_cons, Bool.and_eq_true] at hd
    unfold mv_get at hg
    cases hb : Nat.beq q0 pc with
    | true =>
      rw [hb] at hg
      cases hg
      have := Nat.eq_of_beq_eq_true hb
      subst this
      exact of_decide_eq_true hd.1
    | false =>
      rw [hb] at hg
      exact ih hg hd.2
theorem mv_pool {y pc : Nat} {i : Instr} {a : Int} (hg : mv_get (mv_m y).1 pc = some (i, a)) : ∃ pl, mv_pk y i a pl = true := by
  by_cases hy : y < 206
  · have h0 := List.all_eq_true.mp mv_pk0 y (List.mem_range.mpr hy)
    generalize (mv_m y).1 = k at hg h0
    generalize mv_pp.getD y [] = r at h0
    induction k generalizing r with
    | nil => cases hg
    | cons q k ih =>
      obtain ⟨q0, i0, a0⟩ := q
      cases r with
      | nil => cases h0
      | cons pl r =>
        simp only [mv_pz, Bool.and_eq_true] at h0
        unfold mv_get at hg
        cases hb : Nat.beq q0 pc with
        | true =>
          rw [hb] at hg
          cases hg
          exact ⟨pl, h0.1⟩
        | false =>
          rw [hb] at hg
          exact ih hg r h0.2
  · have : (mv_m y).1 = [] := by
      unfold mv_m
      rw [List.getD_eq_getElem?_getD, List.getElem?_eq_none (Nat.not_lt.mp hy)]; rfl
    rw [this] at hg
    cases hg
theorem mv_at_in {w : Cond} {p : Nat} (h : mv_at w p = true) : w ∈ lw_tbl := List.mem_of_getElem? (of_decide_eq_true h)
theorem mv_G_in {w : Cond} (h : w ∈ lw_tbl) (hg : goodWord w = true) : w ∈ mv_G := List.mem_filter.mpr ⟨h, hg⟩
