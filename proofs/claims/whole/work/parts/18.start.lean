/-! the law's start: the small machine's run of the law gives the walk of the law's body -/
def R_law : String := "LineTemplatesLaw"
def lw_P (b : Addr) (xs : List Int32) (args : Array Value) (s : State) : Prop := args = #[.ref b] ∧ s.IntsAt b xs ∧ xs.length ≤ 2048 ∧ (Jvm.Cond.and given_1 narrow_1).before args s = true
def lw_Q (_ : Array Value) (s : State) (o : Outcome) (t : State) : Prop := o = .returned (some (.int 1)) ∧ Framed s o t [] 601024 7293034
def lw_Z (below : List Frame) (a : Array Value) (s : State) : State → Prop := fun t => ∃ o, t.status = .running ∧ Ended t below o ∧ lw_Q a s o t
/-- what holds at the law's entry: the machine, the code, the tables' words (any of lw_tbl by 'hts w (by decide +kernel)'), the script of L ints xs at the cell b, what the Statement gives of the start (any of its parts by flat_of_before) -/
def lw_At (p : Program) (s : State) (m : MethodId) (meth : Method) (c : Code) (b L : Nat) (xs : Nat → Int32) : Prop :=
  p.tables.exec = Jvm.exec ∧ c.code = code ∧ meth.sig.returnType = ret ∧ c.maxLocals = 7 ∧ s.vm.findClass R_law = some m.cls ∧ (∀ w ∈ lw_tbl, w.before #[Value.ref b] s = true) ∧ va_X b L xs s s.heap ∧ b < s.heap.size ∧ meth.locks = false ∧ (Jvm.Cond.and given_1 narrow_1).before #[Value.ref b] s = true ∧ c.exceptionTable.toList = []

def mv_h0 : mv_H := fun _ => (99, 0, fun _ => 0)
/-- what is owed of the small machine: the law's run answers 1, within the room -/
def mv_Small (L : Nat) (xs : Nat → Int32) : Prop := ∃ (N : Nat) (c' : mv_C) (h' : mv_H), mv_run ((L : Int), fun j => (xs j.toNat).toInt) N q_Law_law 0 (mv_ent [(4, 0)] 7) [] (0, 0, 0) mv_h0 = some ((0, 1), c', h') ∧ c'.2.1 ≤ 601024 ∧ c'.2.2 ≤ 7293034
theorem ms_st0 : Cond.laysStatic Bundle.tN "UNASSIGNED_STACK" Bundle.steD ∈ lw_tbl ∧ Cond.laysStatic Bundle.tN "SUPPRESSED_SENTINEL" Bundle.listD ∈ lw_tbl ∧ Cond.initialized Bundle.tN ∈ lw_tbl ∧ Cond.arrayOver (.object "LineTemplates$Line") ∈ lw_tbl ∧ Cond.arrayOver (.object "LineTemplates$State") ∈ lw_tbl := by decide +kernel
set_option maxRecDepth 100000 in
theorem ms_st1 : Cond.isRef (.static Bundle.tN "UNASSIGNED_STACK" Bundle.steD) ∈ flatC (Jvm.Cond.and given_1 narrow_1) ∧ Cond.isRef (.static Bundle.tN "SUPPRESSED_SENTINEL" Bundle.listD) ∈ flatC (Jvm.Cond.and given_1 narrow_1) := by decide +kernel
set_option maxRecDepth 100000 in
theorem ms_st2 : mv_str.all (fun q => decide (Cond.stringRef "LineTemplates" q.1 q.2 ∈ lw_tbl) && decide (Cond.exactly (.string "LineTemplates" q.1) "java/lang/String" ∈ flatC (Jvm.Cond.and given_1 narrow_1))) = true := by decide +kernel
set_option maxRecDepth 100000 in
theorem ms_st3 : (Cond.not (.castable (mv_xn 0) (mv_xn 1)) ∈ flatC (Jvm.Cond.and given_1 narrow_1) ∧ Cond.not (.castable (mv_xn 0) (mv_xn 2)) ∈ flatC (Jvm.Cond.and given_1 narrow_1) ∧ Cond.not (.castable (mv_xn 1) (mv_xn 0)) ∈ flatC (Jvm.Cond.and given_1 narrow_1)) ∧
    (Cond.not (.castable (mv_xn 1) (mv_xn 2)) ∈ flatC (Jvm.Cond.and given_1 narrow_1) ∧ Cond.not (.castable (mv_xn 2) (mv_xn 0)) ∈ flatC (Jvm.Cond.and given_1 narrow_1) ∧ Cond.not (.castable (mv_xn 2) (mv_xn 1)) ∈ flatC (Jvm.Cond.and given_1 narrow_1)) := by decide +kernel
theorem ms_st4 : mv_by 205 = code ∧ mv_rt 205 = ret ∧ mv_ow 205 = R_law ∧ (mv_m 205).2.2.1 = 7 ∧ mv_hh 205 = [] ∧ (mv_y 205).name = "law" := ⟨rfl, rfl, rfl, rfl, rfl, rfl⟩
theorem mv_nwT {w : Cond} (h : mv_nw w = true) : w.onTables = true := by
  cases w <;> simp only [mv_nw] at h <;> first | rfl | cases h
set_option maxHeartbeats 4000000 in
/-- THE LAW, from its entry, if the small machine's run is as owed -/
theorem whole_start_open {p : Program} {e : Env} {s : State} {m : MethodId} {below : List Frame} {meth : Method} {c : Code} (l : Launch) (hflags : l.flags = flags0) {b L : Nat} {xs : Nat → Int32} (hL : L ≤ 2048) (C0 : lw_At p s m meth c b L xs) (hrun : mv_Small L xs) : W p l e room_1 s m #[Value.ref b] below meth c s.heap [] 0 0 (lw_Z below #[Value.ref b] s) (entryFrame m ([Value.ref b] : List Value).toArray 7) := by
  obtain ⟨hx, hb, hr, hml, hown, hts, hX, hbl, hlocks, hgv, htab⟩ := id C0
  obtain ⟨N, c', h', hrun, hc1, hc2⟩ := hrun
  have hfl := flat_of_before _ hgv
  have hG : ∀ w ∈ mv_G, ∀ a : Array Value, w.before a s = true := fun w hw a => word_at (State.WarmedH.refl s) (good_of_word (List.mem_filter.mp hw).2) (hts w (List.mem_filter.mp hw).1)
  have hGs : ∀ w ∈ mv_G, w.before #[Value.ref b] s = true := fun w hw => hG w hw _
  have kn : ∀ ci, ci < 5 → ∃ (cC : ClassId) (iS : Nat → Nat), u_Kn s (mv_cn ci) (mv_cT ci) (mv_fn ci) cC iS := fun ci h5 => u_known (n := mv_fn ci) hGs (mv_uw ci h5) (hGs _ (mv_iq ci h5).1)
  obtain ⟨D, hK⟩ : ∃ D : va_G, va_K D mv_cl [] s := by
    refine ⟨(fun k => if h : k < 5 then (kn k h).choose else 0, fun k => if h : k < 5 then (kn k h).choose_spec.choose else fun _ => 0), fun k q hq => ?_, fun k q h => by simp at h⟩
    by_cases h5 : k < 5
    · rw [mv_cl_at k h5] at hq
      cases hq
      show u_Kn s _ _ _ (if h : k < 5 then (kn k h).choose else 0) (if h : k < 5 then (kn k h).choose_spec.choose else fun _ => 0)
      rw [dif_pos h5, dif_pos h5]
      exact (kn k h5).choose_spec.choose_spec
    · have : mv_cl[k]? = none := List.getElem?_eq_none (by show 5 ≤ k; omega)
      rw [this] at hq; cases hq
  have hA : ∀ a : Nat, a < s.heap.size → ¬ mv_A s.heap.size a := fun a ha => Nat.not_le.mpr ha
  have hF : mv_Fx D b s.heap.size L xs s := by
    refine ⟨hG, fun w hw hn => va_Nw.of (mv_nwT hn) (hts w hw), hK, ⟨Nat.le_refl _, hbl, hX⟩, ⟨vx_Zqof (hts _ ms_st0.1) (hts _ ms_st0.2.2.1) (hfl _ ms_st1.1) hA, vx_Zqof (hts _ ms_st0.2.1) (hts _ ms_st0.2.2.1) (hfl _ ms_st1.2) hA⟩, fun q hq => ?_, fun i j hi hj hij => ?_, va_AO.of (hts _ ms_st0.2.2.2.1), va_AO.of (hts _ ms_st0.2.2.2.2)⟩
    · have h9 := List.all_eq_true.mp ms_st2 q hq
      simp only [Bool.and_eq_true] at h9
      obtain ⟨a, -, -, -, ha, -⟩ := Cond.exactly_spec (hfl _ (of_decide_eq_true h9.2))
      exact ⟨a, vk_R.of (hts _ (of_decide_eq_true h9.1)) ha⟩
    · match i, j, hi, hj, hij with
      | 0, 1, _, _, _ => exact va_Nc.of (hfl _ ms_st3.1.1)
      | 0, 2, _, _, _ => exact va_Nc.of (hfl _ ms_st3.1.2.1)
      | 1, 0, _, _, _ => exact va_Nc.of (hfl _ ms_st3.1.2.2)
      | 1, 2, _, _, _ => exact va_Nc.of (hfl _ ms_st3.2.1)
      | 2, 0, _, _, _ => exact va_Nc.of (hfl _ ms_st3.2.2.1)
      | 2, 1, _, _, _ => exact va_Nc.of (hfl _ ms_st3.2.2.2)
      | 0, 0, _, _, hij => exact absurd rfl hij
      | 1, 1, _, _, hij => exact absurd rfl hij
      | 2, 2, _, _, hij => exact absurd rfl hij
      | i + 3, _, hi, _, _ => omega
      | 0, j + 3, _, hj, _ => omega
      | 1, j + 3, _, hj, _ => omega
      | 2, j + 3, _, hj, _ => omega
  have hst : l.stackTraces = false := by
    unfold Launch.stackTraces
    rw [hflags]; decide
  have X : mv_Cx p l m #[Value.ref b] meth c 205 D b s.heap.size L xs s := ⟨hx, hb.trans ms_st4.1.symm, hml.trans ms_st4.2.2.2.1.symm, hr.trans ms_st4.2.1.symm, hlocks, by rw [ms_st4.2.2.1]; exact hown, fun h9 => by rw [ms_st4.2.2.2.2.2] at h9; exact absurd h9 (by decide), by rw [htab, ms_st4.2.2.2.2.1]; rfl, hst, hF⟩
  have hrs : mv_rs (fun _ => 0) 0 b [(4, 0)] [Value.ref b] := ⟨rfl, trivial⟩
  have rel : mv_Rl D s b s.heap.size (fun _ => 0) 0 mv_h0 s.heap [] (mv_m 205).2.2.1 ((lg_sl [Value.ref b] ++ List.replicate (7 - (lg_sl [Value.ref b]).length) Slot.unset).toArray) [] (mv_ent [(4, 0)] 7) [] :=
    ⟨[], fun k q h => by simp at h, ⟨fun i j p q h => by simp at h, fun k q h => by simp at h⟩, va_S.rf, ⟨rfl, fun i hi => by omega⟩, mv_rl_ent hrs (by decide), trivial⟩
  rw [lg_entry_eq]
  have main := mv_sim l hst D b s.heap.size L xs (by omega) N 205 0 _ [] (0, 0, 0) mv_h0 (0, 1) c' h' hrun p e room_1 s m #[Value.ref b] below meth c s.heap [] 0 0 601024 7293034 (fun _ => 0) _ [] (fun _ => 0) 0 X (by decide) (by decide) rel (fun j h0 hj => by omega) (Nat.le_refl _) (by omega) (by omega) (Nat.le_refl _) (Nat.le_refl _)
  intro T hT X0
  obtain ⟨t, a1, o, b1, b2, b3⟩ := main T hT X0
  refine ⟨t, a1, o, b1, b2, ?_⟩
  rcases b3 with ⟨⟨ι', ws', -, -, -, -, -, -, g7⟩, Lc, ⟨⟨v, hv⟩, f2, f3⟩, hL⟩ | ⟨q, -, E, ce, Lc, hX9, -⟩
  · rcases g7 with ⟨g8, -⟩ | ⟨-, x, rfl, g9⟩
    · cases g8
    · have g9 : x = .int (Int32.ofInt 1) := g9
      subst g9
      exact ⟨rfl, ⟨_, rfl⟩, f2, State.sameButNew.drop_fresh (L := []) (J := Lc) f3 (fun q hq => hL q hq)⟩
  · have := hX9.1
    cases this
