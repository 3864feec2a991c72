/-! calls, ends, throws; the main row mv_sim -/
theorem mv_mk_ok {z : Nat} (hz : z < 206) (h3 : z ≠ 3) (h5 : z ≠ 205) : Cond.initialized (mv_ow z) ∈ mv_G ∧ (mv_ow z ≠ "java/lang/invoke/MethodHandle" ∧ mv_ow z ≠ "java/lang/invoke/VarHandle") ∧
    ((mv_hh z = [] ∧ Cond.code (mv_y z) (mv_by z) (mv_m z).2.2.1 (mv_rt z) ∈ mv_G) ∨ (Cond.codeWith (mv_y z) (mv_by z) (mv_m z).2.2.1 (mv_rt z) (mv_hh z) ∈ mv_G ∧ mv_sb z = true ∧ mv_hh z ≠ [])) ∧
    ((mv_sb z = true ∧ Cond.static (mv_y z) ∈ mv_G ∧ (parseMethodDescriptor (mv_y z).desc).map (fun d => d.parameters.length) = some (mv_m z).2.1) ∨
     (mv_sb z = false ∧ (parseMethodDescriptor (mv_y z).desc).map (fun d => d.parameters.length + 1) = some (mv_m z).2.1 ∧ (mv_m z).2.2.2.2.1 < 5 ∧ mv_cn (mv_m z).2.2.2.2.1 = mv_ow z ∧ Cond.instanceMethod (mv_y z) ∈ mv_G ∧
       (((mv_y z).name = "<init>" ∧ (mv_m z).2.2.2.1 = 3) ∨ Cond.selects (mv_ow z) (mv_y z) (mv_y z) ∈ mv_G))) := by
  have h := mv_mkA z hz
  generalize mv_mp.getD z [] = pl at h
  unfold mv_mk at h
  split at h
  · rename_i c i r
    simp only [Bool.and_eq_true] at h
    obtain ⟨⟨⟨⟨⟨⟨⟨⟨⟨a1, a2⟩, a3⟩, a4⟩, a5⟩, a6⟩, a7⟩, a8⟩, a9⟩, a10⟩ := h
    refine ⟨mv_G_in (mv_at_in a1) rfl, ⟨of_decide_eq_true a3, of_decide_eq_true a4⟩, ?_, ?_⟩
    · split at a9
      · exact Or.inl ⟨List.isEmpty_iff.mp ‹_›, mv_G_in (mv_at_in a9) rfl⟩
      · obtain ⟨b1, b2⟩ := (Bool.and_eq_true _ _).mp a9
        rename_i hne
        exact Or.inr ⟨mv_G_in (mv_at_in b1) rfl, b2, fun hz9 => hne (List.isEmpty_iff.mpr hz9)⟩
    · split at a10
      · rename_i hsb
        split at a10
        · obtain ⟨b1, b2⟩ := (Bool.and_eq_true _ _).mp a10
          exact Or.inl ⟨hsb, mv_G_in (mv_at_in b1) rfl, of_decide_eq_true b2⟩
        · cases a10
      · rename_i hsb
        have hsb : mv_sb z = false := by
          cases hq : mv_sb z with
          | true => exact absurd hq hsb
          | false => rfl
        simp only [Bool.and_eq_true] at a10
        obtain ⟨⟨⟨b1, b2⟩, b3⟩, b4⟩ := a10
        refine Or.inr ⟨hsb, of_decide_eq_true b1, of_decide_eq_true b2, of_decide_eq_true b3, ?_⟩
        split at b4
        · simp only [Bool.and_eq_true] at b4
          obtain ⟨⟨d1, d2⟩, d3⟩ := b4
          exact ⟨mv_G_in (mv_at_in d1) rfl, Or.inl ⟨of_decide_eq_true d2, of_decide_eq_true d3⟩⟩
        · obtain ⟨d1, d2⟩ := (Bool.and_eq_true _ _).mp b4
          exact ⟨mv_G_in (mv_at_in d1) rfl, Or.inr (mv_G_in (mv_at_in d2) rfl)⟩
        · cases b4
  · rcases (Bool.or_eq_true _ _).mp h with h | h
    · exact absurd (of_decide_eq_true h) h3
    · have := of_decide_eq_true h; omega
theorem mv_metR {l : Launch} {y : MethodName} {ws : List Cond} {rm : Room} {Pc : Array Value → State → Prop} {Qc : Array Value → State → Outcome → State → Prop} {XC : String → State → State → Prop} {mc ms : Nat} {free : Addr → Prop} (h : vx_Met l y ws rm Pc Qc XC mc ms free) (hx : ∀ E st t, ¬ XC E st t) : Met l y ws rm Pc Qc mc ms free := by
  intro p e ha hc hk s m args below hf happ hP hK
  obtain ⟨n, o, h1, h2, h3, h4⟩ := h p e ha hc hk s m args below hf happ hP hK
  refine ⟨n, o, h1, h2, h3, ?_⟩
  rcases h4 with h4 | ⟨q, -, E, ce, L, h5, -⟩
  · exact h4
  · exact absurd h5 (hx _ _ _)
theorem mv_in0 : (List.range 206).all (fun z => decide ((mv_y z).name ≠ "<init>") || decide (mv_rt z = none)) = true := by decide +kernel
theorem mv_fr9 : (List.range 206).all (fun y => decide (mv_fr y ≤ 9)) = true := by decide +kernel
theorem mv_met {l : Launch} {D : va_G} {bs base L : Nat} {xs : Nat → Int32} {N : Nat} (IH : mv_Sim l D bs base L xs N) (hst : l.stackTraces = false) {z : Nat} (hz : z < 206) (h3 : z ≠ 3) {c c1 : mv_C} {h h1 : mv_H} {r1 : mv_R} {As : List Value} {avs : List mv_V}
    (hrun : mv_run ((L : Int), fun j => (xs j.toNat).toInt) N z 0 (mv_ent avs (mv_m z).2.2.1) [] c h = some (r1, c1, h1)) (hent : (mv_ents avs).length ≤ (mv_m z).2.2.1) {s : State} {H : Heap} {locs : List Loc} {ws : va_W} {ι : Int → Nat}
    (hF : mv_Fx D bs base L xs s) (hP : va_P D mv_cl ws H) (hD : va_D (mv_A base) ws) (hS : va_S (mv_A base) s.heap H locs) (hw : mv_w s ι c.1 h ws) (hav : mv_rs ι c.1 bs avs As) {w0 : Cond}
    (hw0 : (w0 = Cond.code (mv_y z) (mv_by z) (mv_m z).2.2.1 (mv_rt z) ∧ mv_hh z = []) ∨ w0 = Cond.codeWith (mv_y z) (mv_by z) (mv_m z).2.2.1 (mv_rt z) (mv_hh z)) :
    vx_Met l (mv_y z) [w0] { frames := mv_fr z, cells := c1.2.1 - c.2.1, slots := c1.2.2 - c.2.2, locals := mv_lo z } (fun a U => a = As.toArray ∧ U.heap = H ∧ s.WarmedH U.vm) (mv_QC D bs base ι c.1 r1 c1 h1) (mv_XC D base ι c.1 r1 c1 h1) (c1.2.1 - c.2.1) (c1.2.2 - c.2.2) (mv_A base) := by
  have hpf : plainFor (mv_y z) = true := by
    rcases (Bool.or_eq_true _ _).mp (mv_all mv_pf0 hz) with hh | hh
    · exact absurd (beq_iff_eq.mp hh) h3
    · exact hh
  refine mv_ofW (hh := mv_hh z) hpf hw0 ?_
  intro p e s2 m2 args2 below2 meth2 cd2 s₁ B hml hxt hPc
  obtain ⟨rfl, hH, hW⟩ := hPc
  rw [lg_entry_eq]
  exact IH z 0 _ [] c h r1 c1 h1 hrun p e _ s2 m2 _ below2 meth2 cd2 s2.heap [] 0 0 _ _ ι _ [] ι c.1
    ⟨B.exec, B.bytes, hml, B.returns, B.notSynchronized, findClass_of_methodNamed B.named, fun hi => (name_of_methodNamed B.named B.method).1.trans hi, hxt, hst, hF.moved hW (by rw [hH]; exact hS)⟩ (Nat.le_refl _) (Nat.le_refl _)
    ⟨ws, by rw [hH]; exact hP, hD, va_S.rf, mv_w_mv hW.alike hw, mv_rl_ent hav hent, trivial⟩ (fun _ _ _ => rfl) (Nat.le_refl _) (by omega) (by omega) (Nat.le_refl _) (Nat.le_refl _)
section RUN
variable {p : Program} {l : Launch} {e : Env} {R : Room} {s : State} {m : MethodId} {args : Array Value} {below : List Frame} {meth : Method} {cd : Code} {H : Heap} {locs : List Loc} {cells slots : Nat} {Q : State → Prop}
variable {y pc : Nat} {D : va_G} {bs base L : Nat} {xs : Nat → Int32} {ι : Int → Nat} {n : Nat} {h : mv_H} {lsr : Array Slot} {str : List Value} {ls st : List mv_V} {i : Instr} {a : Int}
theorem mv_Snext {st0 t : State} {T' : State} {Lc : List Loc} (hS : va_S (mv_A base) s.heap H locs) (e0 : st0.heap = H) (e1 : T'.heap = t.heap) (hFr : va_F (mv_A base) st0 t) (hL : ∀ q ∈ Lc, mv_A base q.base) : va_S (mv_A base) s.heap T'.heap (locs ++ Lc) := by
  obtain ⟨f1, f2⟩ := hFr
  rw [e0] at f1 f2
  exact ⟨Nat.le_trans hS.1 (by rw [e1]; exact f1), fun q h1 h2 => by rw [e1, f2 q (Nat.lt_of_lt_of_le h1 hS.1) h2]; exact hS.2.1 q h1 h2, fun x hx => (List.mem_append.mp hx).elim (hS.2.2 x) (hL x)⟩
/-- behind a call that returned -/
theorem mv_fin {c c1 : mv_C} {h1 : mv_H} {r1 : mv_R} {a9 : Array Value} {q : List Value} {ws : va_W} {ι : Int → Nat} {nL : Nat} (hS : va_S (mv_A base) s.heap H locs) (hl : mv_rl ι c.1 bs ls nL lsr) (hq : mv_rs ι c.1 bs st q)
    (hR : va_Run p l e R s m args below meth cd H locs cells slots (c1.2.1 - c.2.1) (c1.2.2 - c.2.2) (F0 m pc lsr str) q (mv_QC D bs base ι c.1 r1 c1 h1 a9) (mv_A base))
    (K : ∀ (H1 : Heap) (locs1 : List Loc) (ι1 : Int → Nat) (str1 : List Value), mv_Rl D s bs base ι1 c1.1 h1 H1 locs1 nL lsr str1 ls (if r1.1 = 3 then st else r1 :: st) → (∀ j : Int, 0 ≤ j → j < c.1 → ι1 j = ι j) → W p l e R s m args below meth cd H1 locs1 (cells + (c1.2.1 - c.2.1)) (slots + (c1.2.2 - c.2.2)) Q (F0 m (pc + 3) lsr str1)) :
    W p l e R s m args below meth cd H locs cells slots Q (F0 m pc lsr str) := by
  intro T hT X
  obtain ⟨v, st₀, t, T', Lc, e0, X', hL, e1, e2, ⟨ι', ws', g1, g2, g3, g4, g5, g6, g7⟩, hgo⟩ := hR T hT X
  have hW' : s.WarmedH t.vm := by rw [← e2]; exact X'.warmed
  have hw' := mv_w_mv hW'.alike.symm g5
  have hP' : va_P D mv_cl ws' T'.heap := by rw [e1]; exact g3
  have hS' := mv_Snext hS e0 e1 g6 hL
  have go : ∀ str1, mv_rs ι' c1.1 bs (if r1.1 = 3 then st else r1 :: st) str1 → v.toList ++ q = str1 → ∃ t2, Steps p.tables e below (T.setTop (F0 m pc lsr str)) t2 ∧ Q t2 := fun str1 hs1 he => by
    obtain ⟨t2, a1, b1⟩ := K T'.heap (locs ++ Lc) ι' str1 ⟨ws', hP', g4, hS', hw', mv_rl_up g1 g2 hl, hs1⟩ g1 T' rfl X'
    subst he
    exact ⟨t2, hgo t2 a1, b1⟩
  rcases g7 with ⟨h3, h4⟩ | ⟨h3, x, h4, h5⟩
  · cases h4
    exact go q (by rw [if_pos h3]; exact mv_rs_up g1 g2 _ _ hq) rfl
  · cases h4
    exact go (x :: q) (by rw [if_neg (by omega)]; exact ⟨h5, mv_rs_up g1 g2 _ _ hq⟩) rfl
theorem mv_hnd_spec : ∀ (hh : List (Nat × Nat × Nat × Nat)) (pc : Nat) (E : Int) (hp : Nat), mv_hnd (hh.map fun q => (q.1, q.2.1, q.2.2.1, mv_ce q.2.2.2)) pc E = some hp →
    ∃ (pre : List (Nat × Nat × Nat × Nat)) (x : Nat × Nat × Nat × Nat) (suf : List (Nat × Nat × Nat × Nat)), hh = pre ++ x :: suf ∧ (∀ z ∈ pre, ¬ (z.1 ≤ pc ∧ pc < z.2.1) ∨ (mv_ce z.2.2.2 : Int) ≠ E) ∧ x.1 ≤ pc ∧ pc < x.2.1 ∧ (mv_ce x.2.2.2 : Int) = E ∧ x.2.2.1 = hp
  | [], pc, E, hp, h => by cases h
  | w :: r, pc, E, hp, h => by
    rw [List.map_cons, mv_hnd] at h
    split at h
    · cases h
      rename_i hc
      exact ⟨[], w, r, rfl, (fun z hz => by cases hz), hc.1, hc.2.1, hc.2.2, rfl⟩
    · rename_i hc
      obtain ⟨pre, x, suf, h1, h2, h3⟩ := mv_hnd_spec r pc E hp h
      refine ⟨w :: pre, x, suf, by rw [h1]; rfl, fun z hz => ?_, h3⟩
      rcases List.mem_cons.mp hz with rfl | hz
      · by_cases h4 : z.1 ≤ pc ∧ pc < z.2.1
        · exact Or.inr (fun h5 => hc ⟨h4.1, h4.2, h5⟩)
        · exact Or.inl h4
      · exact h2 z hz
theorem mv_ki1 (h1 : mv_ki i a = 1) : (∃ k, i = .invokevirtual k) ∨ (∃ k, i = .invokespecial k) ∨ ∃ k, i = .invokestatic k := by
  cases i <;> simp only [mv_ki] at h1 <;> first
    | (cases h1; done)
    | exact Or.inl ⟨_, rfl⟩
    | exact Or.inr (Or.inl ⟨_, rfl⟩)
    | exact Or.inr (Or.inr ⟨_, rfl⟩)
    | (split at h1 <;> cases h1)
theorem mv_ki3 (h1 : mv_ki i a ≠ 0) (h2 : mv_ki i a ≠ 1) (h3 : mv_ki i a ≠ 2) : ∃ k, i = .new k ∧ a < 0 := by
  cases i <;> simp only [mv_ki] at h1 h2 h3 <;> first
    | exact absurd rfl h1
    | exact absurd rfl h2
    | exact absurd rfl h3
    | (split at h1
       · exact ⟨_, rfl, ‹_›⟩
       · exact absurd rfl h1)
end RUN
