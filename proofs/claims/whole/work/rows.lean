section
/-! ===== BEGIN words of one list among another's, by their places ===== -/
theorem goodIn_r {big : List Cond} (ws : List Cond) (ps : List Nat) (hp : ws = ps.filterMap (fun i => big[i]?)) (h : ws.all goodWord = true) : GoodIn big ws := by
  intro w hw
  have h1 := List.all_eq_true.mp h w hw
  rw [hp] at hw
  obtain ⟨i, -, hi⟩ := List.mem_filterMap.mp hw
  have hm : w ∈ big := by first | exact List.mem_of_getElem? hi | exact List.getElem?_mem hi
  exact ⟨hm, good_of_word h1⟩
theorem goodIn_app {big a b : List Cond} (ha : GoodIn big a) (hb : GoodIn big b) : GoodIn big (a ++ b) := fun w h => (List.mem_append.mp h).elim (ha w) (hb w)
theorem goodIn_ca {big a b : List Cond} {c : Cond} (ha : GoodIn big (c :: a)) (hb : GoodIn big b) : GoodIn big (c :: (a ++ b)) := fun w h => (List.mem_cons.mp h).elim (fun e => ha w (List.mem_cons.mpr (Or.inl e))) (fun h => (List.mem_append.mp h).elim (fun h => ha w (List.mem_cons.mpr (Or.inr h))) (hb w))
theorem goodIn_sub {big ws : List Cond} (hm : ∀ w ∈ ws, w ∈ big) (h : ws.all goodWord = true) : GoodIn big ws := fun w hw => ⟨hm w hw, good_of_word (List.all_eq_true.mp h w hw)⟩
/-! ===== END ===== -/
/-! ===== BEGIN exceptions that leave a method, and their catching by the caller (launches without stack traces) ===== -/
section VXA
/-! The laws vx_back, vx_callV, vx_callS, vx_callSW, vx_throw0, vx_throwS follow proofs of the library, with one case more: JvmDerived/Free/Laws.lean (Back.of_free), Shelf42/LK1.lean (callV, callS), Shelf/KitTraced.lean (throwNew0V, throwNewS). -/
/-- where a method has thrown q: the class by its name, the cell, what was written, the world -/
def vx_T (XC : String → State → State → Prop) (st : State) (q : Addr) (t : State) (mc ms : Nat) (free : Addr → Prop) : Prop :=
  ∃ (E : String) (ce : Cell) (L : List Loc), XC E st t ∧ t.heap[q]? = some ce ∧ ce.vm = .none ∧ st.vm.findClass E = some ce.cls ∧ st.WarmedH t.vm ∧ st.sameButNew ({ t with vm := st.vm } : State) L mc ms ∧ ∀ z ∈ L, free z.base
def vx_Q (Qc : Array Value → State → Outcome → State → Prop) (XC : String → State → State → Prop) (mc ms : Nat) (free : Addr → Prop) : Array Value → State → Outcome → State → Prop := fun a st o t =>
  (Qc a st o t ∧ ∃ L, FrameEnd st o t L mc ms ∧ ∀ q ∈ L, free q.base) ∨ ∃ q, o = .threw q ∧ vx_T XC st q t mc ms free
/-- a callee that returns or throws -/
def vx_Met (l : Launch) (y : MethodName) (ws : List Cond) (rm : Room) (Pc : Array Value → State → Prop) (Qc : Array Value → State → Outcome → State → Prop) (XC : String → State → State → Prop) (mc ms : Nat) (free : Addr → Prop) : Prop :=
  MetFree l y (headSpec ws rm) Pc (fun _ _ _ _ _ => True) (vx_Q Qc XC mc ms free)
def vx_Post (XC : String → State → State → Prop) (mc ms : Nat) (free : Addr → Prop) : Pt → Array Value → Addr → Pt → Prop := fun A a q B =>
  ∃ (g : JFrame) (mk : MethodId) (t : State) (L : List Loc) (E : String) (ce : Cell), B.U.heap = t.heap ∧ B.U.vm = t.vm ∧ XC E (A.U.calling g mk a) t ∧ t.heap[q]? = some ce ∧ ce.vm = .none ∧ A.U.vm.findClass E = some ce.cls ∧ B.locs = A.locs ++ L ∧ (∀ z ∈ L, free z.base) ∧ B.cells = A.cells + mc ∧ B.slots = A.slots + ms
def vx_Back (l : Launch) (R : Room) (p : Program) (e : Env) (below : List Frame) (s : State) (sargs : Array Value) (y : MethodName) (len W9 : Nat)
    (Pre : Pt → Array Value → Prop) (Post : Pt → Array Value → Option Value → Pt → Prop) (PostX : Pt → Array Value → Addr → Pt → Prop) : Prop :=
  ∀ (m : MethodId) (meth : Method) (c : Code) (A : Pt) (g : JFrame) (ig : Instr) (mk : MethodId) (a : Array Value),
    Stand p l e R s m sargs below meth c A.U A.locs A.cells A.slots → g.method = m → g.locals.size = c.maxLocals → decode c.code g.pc = .ok (ig, len) →
    2 * g.monitorRoom + (g.stack.map fun v => v.category).sum ≤ W9 → A.U.methodNamed? y = some mk → Pre A a →
    (∃ (v : Option Value) (B : Pt), Stand p l e R s m sargs below meth c B.U B.locs B.cells B.slots ∧ Post A a v B ∧
      Steps p.tables e below (doInvoke e (A.U.setTop g) [] mk a).1 (B.U.setTop { g with pc := g.pc + len, stack := v.toList ++ g.stack })) ∨
    (∃ (q : Addr) (B : Pt), Stand p l e R s m sargs below meth c B.U B.locs B.cells B.slots ∧ PostX A a q B ∧
      Steps p.tables e below (doInvoke e (A.U.setTop g) [] mk a).1 ((B.U.setTop g).pushFrame (.throwing q)))
section Payer
variable {l : Launch} {R : Room} {p : Program} {e : Env} {below : List Frame} {s : State} {sargs : Array Value} {y : MethodName} {len W9 : Nat}
theorem vx_back {ws : List Cond} {rm : Room} {Pc : Array Value → State → Prop} {Qc : Array Value → State → Outcome → State → Prop} {XC : String → State → State → Prop} {mc ms : Nat} {free : Addr → Prop} {bytes : ByteArray} {maxL : Nat} {ret : Option FieldType}
    (hM : vx_Met l y ws rm Pc Qc XC mc ms free) (hblind : FrameBlind Pc) (hrc : rm.cells = mc) (hrs : rm.slots = ms)
    (hframes : rm.frames + 1 ≤ R.frames) (hlocals : W9 + (maxL + 11) + rm.locals ≤ R.locals)
    (hws : ∀ w ∈ ws, ∀ a' U, s.WarmedH U.vm → w.before a' U = true) (hcode : Cond.code y bytes maxL ret ∈ ws) (hinit : ∀ a' U, s.WarmedH U.vm → (Cond.initialized y.cls).before a' U = true) :
    vx_Back l R p e below s sargs y len W9 (PreOf R mc ms Pc) (PostOf Qc mc ms free) (vx_Post XC mc ms free) := by
  intro m meth c A g ig mk a X hg hsize hdg hW hn hp
  have h1 : (headSpec ws rm).pre.before a A.U = true := atoms_intro fun w hw => hws w hw _ _ X.warmed
  have h2 : (Cond.code y bytes maxL ret).before a A.U = true := hws _ hcode _ _ X.warmed
  have h3 : (Cond.initialized y.cls).before a A.U = true := hinit _ _ X.warmed
  have h4 : A.cells + (headSpec ws rm).room.cells ≤ R.cells := by rw [show (headSpec ws rm).room.cells = mc from hrc]; exact hp.1
  have h5 : A.slots + (headSpec ws rm).room.slots ≤ R.slots := by rw [show (headSpec ws rm).room.slots = ms from hrs]; exact hp.2.1
  have hPc : Pc a (A.U.calling g mk a) := hblind _ _ _ _ hp.2.2
  obtain ⟨U, Ls, c0, s0⟩ := A
  dsimp only [Pt.U, Pt.locs, Pt.cells, Pt.slots] at h1 h2 h3 h4 h5 X hn hPc ⊢
  obtain ⟨methY, cY, hmY, hcY, -, hlY, -, -, -, -⟩ := Cond.code_spec hn h2
  obtain ⟨kY, hkY, -⟩ := className_of_methodNamed hn
  have hinitY : kY.init = .initialized := Cond.initialized_spec (findClass_of_methodNamed hn) hkY h3
  have h : At U g.method c below := by rw [hg]; exact X.here
  have hlocals9 : W9 + (maxL + 11) + (headSpec ws rm).room.locals ≤ R.locals := hlocals
  have happ : (headSpec ws rm).appliesLoose y e.platform (U.calling g mk a) = true :=
    Spec.appliesLoose_calling (g := g) h hdg hn hkY hinitY
      (X.room_calling (g := g) (R' := (headSpec ws rm).room) hsize hmY hcY hframes (by rw [hlY]; omega) h4 h5) h1
  obtain ⟨mid, hmid⟩ := h.above
  have hfr : (U.setTop g).frames = (.java g :: mid) ++ below := by rw [State.frames_setTop' g h.top, hmid]; rfl
  obtain ⟨o, s₂, hsteps, -, hend, hq⟩ := Steps.callFree hM p X.admits X.cas X.clock (acts := []) hfr happ hPc trivial
  have hq' : vx_Q Qc XC mc ms free a (U.calling g mk a) o s₂ := hq
  rw [State.frames_setTop' g h.top] at hend
  obtain ⟨g₀, hg0⟩ := Option.isSome_iff_exists.mp h.top
  obtain ⟨r, hr⟩ := State.topJava?_eq_some.mp hg0
  have hr' : (({ U with heap := s₂.heap, slotsUsed := s₂.slotsUsed } : State).setVm s₂.vm).frames = .java g₀ :: r := hr
  rcases hq' with ⟨hqc, L, hfe, hL⟩ | ⟨q, rfl, E, ce, L, hx, hce, hcv, hcl, hW₂, hsm, hL⟩
  · obtain ⟨⟨v, rfl⟩, hW₂, e2, q2, q3, q4, q5, q6⟩ := id hfe
    have e3 : s₂ = ({ (U.calling g mk a).setFrames s₂.frames with heap := s₂.heap, slotsUsed := s₂.slotsUsed } : State).setVm s₂.vm := by
      have : s₂ = ({ s₂ with vm := (U.calling g mk a).vm } : State).setVm s₂.vm := rfl
      rw [e2] at this
      exact this
    obtain ⟨c₂, i₂, len₂, hc₂, hd₂, hf₂⟩ := hend
    have hW' : U.WarmedH s₂.vm := hW₂
    have hcc : c₂ = c := by
      have h1 : s₂.code? g.method = U.code? g.method := by
        rw [State.code?_eq, State.code?_eq, hW'.alike.method?]
      exact Option.some.inj (hc₂.symm.trans (h1.trans h.code))
    subst hcc
    have hlen : len₂ = len := by rw [hdg] at hd₂; cases hd₂; rfl
    subst hlen
    have hs₂ : s₂ = (({ U with heap := s₂.heap, slotsUsed := s₂.slotsUsed } : State).setVm s₂.vm).setTop { g with pc := g.pc + len₂, stack := v.toList ++ g.stack } := by
      refine e3.trans ?_
      rw [hf₂, State.calling_eq h.top, State.setFrames_setFrames, State.setTop_of_frames _ hr', hr]
      rfl
    have hsame : U.sameButNew ({ U with heap := s₂.heap, slotsUsed := s₂.slotsUsed } : State) L mc ms := by
      refine ⟨?_, q2, q3, q4, q5, q6⟩
      obtain ⟨t, ht, -⟩ := State.frames_cons hr
      show ({ U with heap := s₂.heap, slotsUsed := s₂.slotsUsed } : State) = { U.setFrames U.frames with heap := s₂.heap, slotsUsed := s₂.slotsUsed }
      rw [State.setFrames_self ht]
    subst hg
    refine Or.inl ⟨v, ⟨(({ U with heap := s₂.heap, slotsUsed := s₂.slotsUsed } : State).setVm s₂.vm), Ls ++ L, c0 + mc, s0 + ms⟩,
      ⟨X.admits, X.cas, X.clock, X.frames, X.room, X.hears, X.method, X.code, (X.here.setHeapUsed s₂.heap s₂.slotsUsed).setVm hW'.alike, X.tail, State.WarmedH.trans X.warmed hW', X.limits, X.bytes, X.same.trans (hsame.setVm s.vm)⟩,
      ⟨g, mk, s₂, L, rfl, rfl, hqc, rfl, hL, rfl, rfl⟩, ?_⟩
    show Steps p.tables e below _ ((({ U with heap := s₂.heap, slotsUsed := s₂.slotsUsed } : State).setVm s₂.vm).setTop { g with pc := g.pc + len₂, stack := v.toList ++ g.stack })
    rw [← hs₂]
    exact hsteps
  · obtain ⟨e2, q2, q3, q4, q5, q6⟩ := id hsm
    have e3 : s₂ = ({ (U.calling g mk a).setFrames s₂.frames with heap := s₂.heap, slotsUsed := s₂.slotsUsed } : State).setVm s₂.vm := by
      have : s₂ = ({ s₂ with vm := (U.calling g mk a).vm } : State).setVm s₂.vm := rfl
      rw [e2] at this
      exact this
    have hf₂ : s₂.frames = .throwing q :: .java g :: U.frames.tail := hend
    have hW' : U.WarmedH s₂.vm := hW₂
    have hs₂ : s₂ = ((({ U with heap := s₂.heap, slotsUsed := s₂.slotsUsed } : State).setVm s₂.vm).setTop g).pushFrame (.throwing q) := by
      refine e3.trans ?_
      rw [hf₂, State.calling_eq h.top, State.setFrames_setFrames, State.pushFrame, State.frames_setTop _ hr', State.setTop_of_frames _ hr', State.setFrames_setFrames, hr]
      rfl
    have hsame : U.sameButNew ({ U with heap := s₂.heap, slotsUsed := s₂.slotsUsed } : State) L mc ms := by
      refine ⟨?_, q2, q3, q4, q5, q6⟩
      obtain ⟨t, ht, -⟩ := State.frames_cons hr
      show ({ U with heap := s₂.heap, slotsUsed := s₂.slotsUsed } : State) = { U.setFrames U.frames with heap := s₂.heap, slotsUsed := s₂.slotsUsed }
      rw [State.setFrames_self ht]
    subst hg
    refine Or.inr ⟨q, ⟨(({ U with heap := s₂.heap, slotsUsed := s₂.slotsUsed } : State).setVm s₂.vm), Ls ++ L, c0 + mc, s0 + ms⟩,
      ⟨X.admits, X.cas, X.clock, X.frames, X.room, X.hears, X.method, X.code, (X.here.setHeapUsed s₂.heap s₂.slotsUsed).setVm hW'.alike, X.tail, State.WarmedH.trans X.warmed hW', X.limits, X.bytes, X.same.trans (hsame.setVm s.vm)⟩,
      ⟨g, mk, s₂, L, E, ce, rfl, rfl, hx, hce, hcv, hcl, rfl, hL, rfl, rfl⟩, ?_⟩
    show Steps p.tables e below _ (((({ U with heap := s₂.heap, slotsUsed := s₂.slotsUsed } : State).setVm s₂.vm).setTop g).pushFrame (.throwing q))
    rw [← hs₂]
    exact hsteps
end Payer
section Calls
variable {p : Program} {l : Launch} {e : Env} {R : Room} {s : State} {m : MethodId} {args : Array Value} {below : List Frame} {meth : Method} {c : Code} {T : State} {locs : List Loc} {cells slots : Nat}
theorem vx_callV (X : Stand p l e R s m args below meth c T locs cells slots) (hexec : p.tables.exec = Jvm.exec) {own C : String} {index : Nat} {y : MethodName} {bytes : ByteArray} {maxL : Nat} {ret : Option FieldType}
    (hown : s.vm.findClass own = some m.cls) (hlink : (Cond.methodLink own index y).before args s = true) (hinst : (Cond.instanceMethod y).before args s = true) (hsel : (Cond.selects C y y).before args s = true)
    (hcode : (Cond.code y bytes maxL ret).before args s = true) (hy : y.cls ≠ "java/lang/invoke/MethodHandle" ∧ y.cls ≠ "java/lang/invoke/VarHandle")
    {W9 : Nat} {Pre : Pt → Array Value → Prop} {Post : Pt → Array Value → Option Value → Pt → Prop} {PostX : Pt → Array Value → Addr → Pt → Prop} (hK : vx_Back l R p e below s args y 3 W9 Pre Post PostX)
    {b : Addr} {cellB : Cell} (hcell : T.heap[b]? = some cellB) (hobj : cellB.vm.isStatics = false) (hcls : s.vm.findClass C = some cellB.cls)
    {g : JFrame} (hg : g.method = m) (hsize : g.locals.size = c.maxLocals) {argsL rest : List Value} (hlen : ∀ sig, parseMethodDescriptor y.desc = some sig → argsL.length = sig.parameters.length)
    (hstack : g.stack = argsL.reverse ++ .ref b :: rest) (hW : 2 * g.monitorRoom + (rest.map fun v => v.category).sum ≤ W9) (hdg : decode c.code g.pc = .ok (.invokevirtual index, 3))
    (hpre : ∀ vm₁, s.WarmedH vm₁ → Pre ⟨T.setVm vm₁, locs, cells, slots⟩ (Value.ref b :: argsL).toArray) :
    (∃ (v : Option Value) (vm₁ : Vm) (B : Pt), s.WarmedH vm₁ ∧ Stand p l e R s m args below meth c B.U B.locs B.cells B.slots ∧ Post ⟨T.setVm vm₁, locs, cells, slots⟩ (Value.ref b :: argsL).toArray v B ∧
      ∀ target, Steps p.tables e below (B.U.setTop { g with pc := g.pc + 3, stack := v.toList ++ rest }) target → Steps p.tables e below (T.setTop g) target) ∨
    (∃ (q : Addr) (vm₁ : Vm) (B : Pt), s.WarmedH vm₁ ∧ Stand p l e R s m args below meth c B.U B.locs B.cells B.slots ∧ PostX ⟨T.setVm vm₁, locs, cells, slots⟩ (Value.ref b :: argsL).toArray q B ∧
      Steps p.tables e below (T.setTop g) ((B.U.setTop { g with stack := rest }).pushFrame (.throwing q))) := by
  obtain ⟨mk, methM, hnamed, hmethM, hstM, habM⟩ := Cond.instanceMethod_spec hinst
  obtain ⟨methM', cM, hmethM', -, -, -, -, -, -, hsigM⟩ := Cond.code_spec hnamed hcode
  cases hmethM.symm.trans hmethM'
  obtain ⟨c2, r2, m2, q1, q2, q3, q4, kP, hkP, hkPi⟩ := Cond.selects_spec hsel
  cases hcls.symm.trans q1
  cases (State.methodFound?_of_named hnamed hy).symm.trans q2
  cases hnamed.symm.trans q3
  have hselP : selectMethod e.platform s.vm cellB.cls mk = .method mk := by rw [Launch.admits_selectMethod X.admits]; exact q4
  obtain ⟨vm₁, X₁, hstep₁⟩ := X.invokevirtual hexec hown hlink hnamed hmethM hstM hkP hkPi hy (a := b) (cell := cellB) hcell
    (fun z h => by rw [h] at hobj; cases hobj) hselP hmethM habM hkP hkPi (g := g) hg (argsL := argsL) (rest := rest) (hlen _ hsigM) hstack hdg
  rcases hK m meth c ⟨T.setVm vm₁, locs, cells, slots⟩ { g with stack := rest } (.invokevirtual index) mk (Value.ref b :: argsL).toArray X₁ hg hsize hdg hW (X₁.named hnamed) (hpre vm₁ X₁.warmed) with ⟨v, B, X', hpost, hsteps⟩ | ⟨q, B, X', hpost, hsteps⟩
  · exact Or.inl ⟨v, vm₁, B, X₁.warmed, X', hpost, fun target h => hstep₁ _ fun acts => by rw [doInvoke_state]; exact hsteps.trans h⟩
  · exact Or.inr ⟨q, vm₁, B, X₁.warmed, X', hpost, hstep₁ _ fun acts => by rw [doInvoke_state]; exact hsteps⟩
theorem vx_callS (X : Stand p l e R s m args below meth c T locs cells slots) (hexec : p.tables.exec = Jvm.exec) {own : String} {index : Nat} {y : MethodName} {bytes : ByteArray} {maxL : Nat} {ret : Option FieldType}
    (hown : s.vm.findClass own = some m.cls) (hlink : (Cond.methodLink own index y).before args s = true) (hstat : (Cond.static y).before args s = true) (hinit : (Cond.initialized y.cls).before args s = true)
    (hcode : (Cond.code y bytes maxL ret).before args s = true) (hy : y.cls ≠ "java/lang/invoke/MethodHandle" ∧ y.cls ≠ "java/lang/invoke/VarHandle")
    {W9 : Nat} {Pre : Pt → Array Value → Prop} {Post : Pt → Array Value → Option Value → Pt → Prop} {PostX : Pt → Array Value → Addr → Pt → Prop} (hK : vx_Back l R p e below s args y 3 W9 Pre Post PostX)
    {g : JFrame} (hg : g.method = m) (hsize : g.locals.size = c.maxLocals) {argsL rest : List Value} (hlen : ∀ sig, parseMethodDescriptor y.desc = some sig → argsL.length = sig.parameters.length)
    (hstack : g.stack = argsL.reverse ++ rest) (hW : 2 * g.monitorRoom + (rest.map fun v => v.category).sum ≤ W9) (hdg : decode c.code g.pc = .ok (.invokestatic index, 3))
    (hpre : ∀ vm₁, s.WarmedH vm₁ → Pre ⟨T.setVm vm₁, locs, cells, slots⟩ argsL.toArray) :
    (∃ (v : Option Value) (vm₁ : Vm) (B : Pt), s.WarmedH vm₁ ∧ Stand p l e R s m args below meth c B.U B.locs B.cells B.slots ∧ Post ⟨T.setVm vm₁, locs, cells, slots⟩ argsL.toArray v B ∧
      ∀ target, Steps p.tables e below (B.U.setTop { g with pc := g.pc + 3, stack := v.toList ++ rest }) target → Steps p.tables e below (T.setTop g) target) ∨
    (∃ (q : Addr) (vm₁ : Vm) (B : Pt), s.WarmedH vm₁ ∧ Stand p l e R s m args below meth c B.U B.locs B.cells B.slots ∧ PostX ⟨T.setVm vm₁, locs, cells, slots⟩ argsL.toArray q B ∧
      Steps p.tables e below (T.setTop g) ((B.U.setTop { g with stack := rest }).pushFrame (.throwing q))) := by
  obtain ⟨mk, hnamed⟩ := Cond.code_named hcode
  obtain ⟨methM, cM, hmethM, -, -, -, -, -, -, hsigM⟩ := Cond.code_spec hnamed hcode
  have hstatic : methM.isStatic = true := Cond.static_spec hnamed hmethM hstat
  obtain ⟨kP, hkP, -⟩ := className_of_methodNamed hnamed
  have hinitP : kP.init = .initialized := Cond.initialized_spec (findClass_of_methodNamed hnamed) hkP hinit
  obtain ⟨vm₁, X₁, hstep₁⟩ := X.invokestatic hexec hown hlink hnamed hmethM hstatic hkP hinitP hy (g := g) hg (argsL := argsL) (rest := rest) (hlen _ hsigM) hstack hdg
  rcases hK m meth c ⟨T.setVm vm₁, locs, cells, slots⟩ { g with stack := rest } (.invokestatic index) mk argsL.toArray X₁ hg hsize hdg hW (X₁.named hnamed) (hpre vm₁ X₁.warmed) with ⟨v, B, X', hpost, hsteps⟩ | ⟨q, B, X', hpost, hsteps⟩
  · exact Or.inl ⟨v, vm₁, B, X₁.warmed, X', hpost, fun target h => hstep₁ _ fun acts => by rw [doInvoke_state]; exact hsteps.trans h⟩
  · exact Or.inr ⟨q, vm₁, B, X₁.warmed, X', hpost, hstep₁ _ fun acts => by rw [doInvoke_state]; exact hsteps⟩
end Calls
theorem vx_cls {s : State} {T : State} {vm₁ : Vm} {E : String} {k : ClassId} (hW : s.WarmedH vm₁) (h : (T.setVm vm₁).vm.findClass E = some k) : s.vm.findClass E = some k := by
  have h1 : vm₁.findClass E = some k := h
  rw [hW.alike.findClass] at h1
  exact h1
/-- the method's frame g, with q thrown over it -/
def vx_W (p : Program) (l : Launch) (e : Env) (R : Room) (s : State) (m : MethodId) (args : Array Value) (below : List Frame) (meth : Method) (c : Code) (H : Heap) (locs : List Loc) (cells slots : Nat) (Q : State → Prop) (g : JFrame) (q : Addr) : Prop :=
  ∀ T : State, T.heap = H → Stand p l e R s m args below meth c T locs cells slots → ∃ t, Steps p.tables e below ((T.setTop g).pushFrame (.throwing q)) t ∧ Q t
def vx_Run (p : Program) (l : Launch) (e : Env) (R : Room) (s : State) (m : MethodId) (args : Array Value) (below : List Frame) (meth : Method) (c : Code) (H : Heap) (locs : List Loc) (cells slots mc ms : Nat) (g : JFrame) (rest : List Value) (Qa : State → Outcome → State → Prop) (XC : String → State → State → Prop) (free : Addr → Prop) : Prop :=
  ∀ T : State, T.heap = H → Stand p l e R s m args below meth c T locs cells slots →
    (∃ (v : Option Value) (st₀ t T' : State) (L : List Loc), st₀.heap = H ∧ Stand p l e R s m args below meth c T' (locs ++ L) (cells + mc) (slots + ms) ∧ (∀ q ∈ L, free q.base) ∧ T'.heap = t.heap ∧ T'.vm = t.vm ∧ Qa st₀ (.returned v) t ∧
      Goes p e below T g T' { g with pc := g.pc + 3, stack := v.toList ++ rest }) ∨
    (∃ (q : Addr) (st₀ t T' : State) (L : List Loc) (E : String) (ce : Cell), st₀.heap = H ∧ Stand p l e R s m args below meth c T' (locs ++ L) (cells + mc) (slots + ms) ∧ (∀ z ∈ L, free z.base) ∧ T'.heap = t.heap ∧ T'.vm = t.vm ∧ XC E st₀ t ∧ t.heap[q]? = some ce ∧ ce.vm = .none ∧ s.vm.findClass E = some ce.cls ∧
      Steps p.tables e below (T.setTop g) ((T'.setTop { g with stack := rest }).pushFrame (.throwing q)))
def vx_X {S : Type} (px : S → Prop) (B : String → S → State → Prop) (A : Nat → Prop) : String → State → State → Prop := fun E st t => ∃ u : S, px u ∧ B E u t ∧ va_F A st t
section Runs
variable {p : Program} {l : Launch} {e : Env} {R : Room} {s : State} {m : MethodId} {args : Array Value} {below : List Frame} {meth : Method} {c : Code} {H : Heap} {locs : List Loc} {cells slots : Nat}
variable {y : MethodName} {bytes cc : ByteArray} {maxL nL mc ms n index : Nat} {ret : Option FieldType} {ws : List Cond} {rm : Room} {Pc : Array Value → State → Prop} {Qc : Array Value → State → Outcome → State → Prop} {XC : String → State → State → Prop} {free : Addr → Prop} {Ts : List Cond} {own C : String} {b : Addr} {As rest : List Value} {g : JFrame}
theorem vx_callBack (cb : CallB R s args own index y bytes maxL ret ws rm mc ms n) (hM : vx_Met l y ws rm Pc Qc XC mc ms free) (hbl : FrameBlind Pc) : vx_Back l R p e below s args y 3 8 (PreOf R mc ms Pc) (PostOf Qc mc ms free) (vx_Post XC mc ms free) := by
  obtain ⟨hrc, hrs, hfr, hlo, hws, hcw, -, hini, -⟩ := cb
  exact vx_back (bytes := bytes) (maxL := maxL) (ret := ret) hM hbl hrc hrs hfr hlo hws hcw (fun a' U hW => word_at hW (Or.inl (by first | rfl | simp [Cond.onTables, Cond.keeps, Cond.steady])) hini)
theorem vx_runV (S : CallFix p m c cc nL s args Ts own) (hM : vx_Met l y ws rm Pc Qc XC mc ms free) (cw : CallW R s args own C index y bytes maxL ret ws rm mc ms n) (hp : PreV s H C b Pc As)
    (hg : g.method = m) (hn : As.length = n) (hsize : g.locals.size = nL) (hstack : g.stack = As.reverse ++ .ref b :: rest) (hW : 2 * g.monitorRoom + (rest.map fun v => v.category).sum ≤ 8) (hdg : decode cc g.pc = .ok (.invokevirtual index, 3)) (hf : cells + mc ≤ R.cells ∧ slots + ms ≤ R.slots) :
    vx_Run p l e R s m args below meth c H locs cells slots mc ms g rest (Qc (Value.ref b :: As).toArray) XC free := by
  have hK : vx_Back l R p e below s args y 3 8 (PreOf R mc ms Pc) (PostOf Qc mc ms free) (vx_Post XC mc ms free) := vx_callBack cw.1 hM hp.1
  obtain ⟨⟨-, -, -, -, -, -, hcode, -, hy, hlen, hl⟩, hin, hse⟩ := cw
  obtain ⟨hx, hb, hml, ho, -⟩ := S
  obtain ⟨-, ⟨cellB, hcB, hoB, hclB⟩, hPc⟩ := hp
  intro T hT X
  rcases vx_callV X hx (C := C) (bytes := bytes) (maxL := maxL) (ret := ret) ho hl hin hse hcode hy hK (by rw [hT]; exact hcB) hoB hclB hg (hsize.trans hml.symm) (argsL := As) (rest := rest) (fun sig h => hn.trans (hlen sig h)) hstack hW (by rw [hb]; exact hdg)
    (fun vm₁ hW₁ => ⟨hf.1, hf.2, hPc (T.setVm vm₁) hT hW₁⟩) with ⟨v, vm₁, ⟨U', l2, c2, s2⟩, hW₁, X', ⟨g', mk, t, L, e1, e2, hq, h1, hL, h2, h3⟩, st⟩ | ⟨q, vm₁, ⟨U', l2, c2, s2⟩, hW₁, X', ⟨g', mk, t, L, E, ce, e1, e2, hq, hce, hcv, hcl, h1, hL, h2, h3⟩, st⟩
  · dsimp only [Pt.U, Pt.locs, Pt.cells, Pt.slots] at X' e1 e2 h1 h2 h3 st
    subst h1; subst h2; subst h3
    exact Or.inl ⟨v, (T.setVm vm₁).calling g' mk (Value.ref b :: As).toArray, t, U', L, hT, X', hL, e1, e2, hq, st⟩
  · dsimp only [Pt.U, Pt.locs, Pt.cells, Pt.slots] at X' e1 e2 h1 h2 h3 st hcl
    subst h1; subst h2; subst h3
    exact Or.inr ⟨q, (T.setVm vm₁).calling g' mk (Value.ref b :: As).toArray, t, U', L, E, ce, hT, X', hL, e1, e2, hq, hce, hcv, vx_cls hW₁ hcl, st⟩
theorem vx_runS (S : CallFix p m c cc nL s args Ts own) (hM : vx_Met l y ws rm Pc Qc XC mc ms free) (cw : CallB R s args own index y bytes maxL ret ws rm mc ms n ∧ (Cond.static y).before args s = true) (hp : PreS s H Pc As)
    (hg : g.method = m) (hn : As.length = n) (hsize : g.locals.size = nL) (hstack : g.stack = As.reverse ++ rest) (hW : 2 * g.monitorRoom + (rest.map fun v => v.category).sum ≤ 8) (hdg : decode cc g.pc = .ok (.invokestatic index, 3)) (hf : cells + mc ≤ R.cells ∧ slots + ms ≤ R.slots) :
    vx_Run p l e R s m args below meth c H locs cells slots mc ms g rest (Qc As.toArray) XC free := by
  have hK : vx_Back l R p e below s args y 3 8 (PreOf R mc ms Pc) (PostOf Qc mc ms free) (vx_Post XC mc ms free) := vx_callBack cw.1 hM hp.1
  obtain ⟨⟨-, -, -, -, -, -, hcode, hini, hy, hlen, hl⟩, hstt⟩ := cw
  obtain ⟨hx, hb, hml, ho, -⟩ := S
  intro T hT X
  rcases vx_callS X hx (bytes := bytes) (maxL := maxL) (ret := ret) ho hl hstt hini hcode hy hK hg (hsize.trans hml.symm) (argsL := As) (rest := rest) (fun sig h => hn.trans (hlen sig h)) hstack hW (by rw [hb]; exact hdg)
    (fun vm₁ hW₁ => ⟨hf.1, hf.2, hp.2 (T.setVm vm₁) hT hW₁⟩) with ⟨v, vm₁, ⟨U', l2, c2, s2⟩, hW₁, X', ⟨g', mk, t, L, e1, e2, hq, h1, hL, h2, h3⟩, st⟩ | ⟨q, vm₁, ⟨U', l2, c2, s2⟩, hW₁, X', ⟨g', mk, t, L, E, ce, e1, e2, hq, hce, hcv, hcl, h1, hL, h2, h3⟩, st⟩
  · dsimp only [Pt.U, Pt.locs, Pt.cells, Pt.slots] at X' e1 e2 h1 h2 h3 st
    subst h1; subst h2; subst h3
    exact Or.inl ⟨v, (T.setVm vm₁).calling g' mk As.toArray, t, U', L, hT, X', hL, e1, e2, hq, st⟩
  · dsimp only [Pt.U, Pt.locs, Pt.cells, Pt.slots] at X' e1 e2 h1 h2 h3 st hcl
    subst h1; subst h2; subst h3
    exact Or.inr ⟨q, (T.setVm vm₁).calling g' mk As.toArray, t, U', L, E, ce, hT, X', hL, e1, e2, hq, hce, hcv, vx_cls hW₁ hcl, st⟩
end Runs
section Rows
variable {p : Program} {l : Launch} {e : Env} {R : Room} {s : State} {m : MethodId} {args : Array Value} {below : List Frame} {meth : Method} {c : Code} {H : Heap} {locs : List Loc} {cells slots : Nat} {Q : State → Prop}
variable {mc ms : Nat} {free : Addr → Prop} {A0 A1 : Nat → Prop} {H0 : Heap} {a : Array Value} {pc : Nat} {ls : Array Slot} {st0 rest : List Value}
theorem vx_keep {st₀ t T' : State} {L : List Loc} (h0 : st₀.heap = H) (e1 : T'.heap = t.heap) (hS : va_S A0 H0 H locs) (hA : ∀ q, q < H.size → A1 q → A0 q) (hf : ∀ q, free q → A0 q) (hL : ∀ q ∈ L, free q.base) (hF : va_F A1 st₀ t) :
    H.size ≤ T'.heap.size ∧ (∀ q : Nat, q < H.size → ¬ A1 q → T'.heap[q]? = H[q]?) ∧ va_S A0 H0 T'.heap (locs ++ L) := by
  obtain ⟨hz, hk⟩ := hF
  rw [h0] at hz hk
  exact ⟨by rw [e1]; exact hz, fun q h1 h2 => by rw [e1]; exact hk q h1 h2,
    ⟨Nat.le_trans hS.1 (by rw [e1]; exact hz), fun q h1 h2 => by rw [e1, hk q (Nat.lt_of_lt_of_le h1 hS.1) (fun z => h2 (hA q (Nat.lt_of_lt_of_le h1 hS.1) z))]; exact hS.2.1 q h1 h2, fun q hq => by
      rcases List.mem_append.mp hq with h | h
      · exact hS.2.2 q h
      · exact hf _ (hL q h)⟩⟩
theorem vx_calli {S SX : Type} {post : Int32 → S → Prop} {px : SX → Prop} {B : S → State → Prop} {BX : String → SX → State → Prop} {AX : Nat → Prop} (hr : vx_Run p l e R s m args below meth c H locs cells slots mc ms (F0 m pc ls st0) rest (va_Qi post B A1 a) (vx_X px BX AX) free) (hS : va_S A0 H0 H locs) (hA : ∀ q, q < H.size → A1 q → A0 q) (hf : ∀ q, free q → A0 q) (hAX : ∀ q, q < H.size → AX q → A0 q)
    (kx : ∀ (E : String) (ce : Cell) (q9 : Addr) (u : SX) (t : State) (H1 : Heap) (locs1 : List Loc), t.heap = H1 → s.vm.Alike t.vm → px u → BX E u t → H.size ≤ H1.size → (∀ q : Nat, q < H.size → ¬ AX q → H1[q]? = H[q]?) → va_S A0 H0 H1 locs1 → H1[q9]? = some ce → ce.vm = .none → s.vm.findClass E = some ce.cls → vx_W p l e R s m args below meth c H1 locs1 (cells + mc) (slots + ms) Q (F0 m pc ls rest) q9)
    (kk : ∀ (r : Int32) (u : S) (t : State) (H1 : Heap) (locs1 : List Loc), t.heap = H1 → s.vm.Alike t.vm → post r u → B u t → H.size ≤ H1.size → (∀ q : Nat, q < H.size → ¬ A1 q → H1[q]? = H[q]?) → va_S A0 H0 H1 locs1 → W p l e R s m args below meth c H1 locs1 (cells + mc) (slots + ms) Q (F0 m (pc + 3) ls (.int r :: rest))) : W p l e R s m args below meth c H locs cells slots Q (F0 m pc ls st0) := by
  intro T hT X
  rcases hr T hT X with ⟨v, st₀, t, T', L, h0, X', hL, e1, e2, ⟨⟨r, u, hv, hp, hb⟩, hF⟩, st⟩ | ⟨q, st₀, t, T', L, E, ce, h0, X', hL, e1, e2, ⟨u, hp, hb, hF⟩, hce, hcv, hcl, st⟩
  · cases hv
    obtain ⟨k1, k2, k3⟩ := vx_keep h0 e1 hS hA hf hL hF
    obtain ⟨t2, a1, b1⟩ := kk r u t T'.heap (locs ++ L) e1.symm (by rw [← e2]; exact X'.warmed.alike) hp hb k1 k2 k3 T' rfl X'
    exact ⟨t2, st t2 a1, b1⟩
  · obtain ⟨k1, k2, k3⟩ := vx_keep h0 e1 hS hAX hf hL hF
    obtain ⟨t2, a1, b1⟩ := kx E ce q u t T'.heap (locs ++ L) e1.symm (by rw [← e2]; exact X'.warmed.alike) hp hb k1 k2 k3 (by rw [e1]; exact hce) hcv hcl T' rfl X'
    exact ⟨t2, st.trans a1, b1⟩
theorem vx_calll {S SX : Type} {post : Int64 → S → Prop} {px : SX → Prop} {B : S → State → Prop} {BX : String → SX → State → Prop} {AX : Nat → Prop} (hr : vx_Run p l e R s m args below meth c H locs cells slots mc ms (F0 m pc ls st0) rest (va_Ql post B A1 a) (vx_X px BX AX) free) (hS : va_S A0 H0 H locs) (hA : ∀ q, q < H.size → A1 q → A0 q) (hf : ∀ q, free q → A0 q) (hAX : ∀ q, q < H.size → AX q → A0 q)
    (kx : ∀ (E : String) (ce : Cell) (q9 : Addr) (u : SX) (t : State) (H1 : Heap) (locs1 : List Loc), t.heap = H1 → s.vm.Alike t.vm → px u → BX E u t → H.size ≤ H1.size → (∀ q : Nat, q < H.size → ¬ AX q → H1[q]? = H[q]?) → va_S A0 H0 H1 locs1 → H1[q9]? = some ce → ce.vm = .none → s.vm.findClass E = some ce.cls → vx_W p l e R s m args below meth c H1 locs1 (cells + mc) (slots + ms) Q (F0 m pc ls rest) q9)
    (kk : ∀ (r : Int64) (u : S) (t : State) (H1 : Heap) (locs1 : List Loc), t.heap = H1 → s.vm.Alike t.vm → post r u → B u t → H.size ≤ H1.size → (∀ q : Nat, q < H.size → ¬ A1 q → H1[q]? = H[q]?) → va_S A0 H0 H1 locs1 → W p l e R s m args below meth c H1 locs1 (cells + mc) (slots + ms) Q (F0 m (pc + 3) ls (.long r :: rest))) : W p l e R s m args below meth c H locs cells slots Q (F0 m pc ls st0) := by
  intro T hT X
  rcases hr T hT X with ⟨v, st₀, t, T', L, h0, X', hL, e1, e2, ⟨⟨r, u, hv, hp, hb⟩, hF⟩, st⟩ | ⟨q, st₀, t, T', L, E, ce, h0, X', hL, e1, e2, ⟨u, hp, hb, hF⟩, hce, hcv, hcl, st⟩
  · cases hv
    obtain ⟨k1, k2, k3⟩ := vx_keep h0 e1 hS hA hf hL hF
    obtain ⟨t2, a1, b1⟩ := kk r u t T'.heap (locs ++ L) e1.symm (by rw [← e2]; exact X'.warmed.alike) hp hb k1 k2 k3 T' rfl X'
    exact ⟨t2, st t2 a1, b1⟩
  · obtain ⟨k1, k2, k3⟩ := vx_keep h0 e1 hS hAX hf hL hF
    obtain ⟨t2, a1, b1⟩ := kx E ce q u t T'.heap (locs ++ L) e1.symm (by rw [← e2]; exact X'.warmed.alike) hp hb k1 k2 k3 (by rw [e1]; exact hce) hcv hcl T' rfl X'
    exact ⟨t2, st.trans a1, b1⟩
theorem vx_callf {S SX : Type} {post : UInt32 → S → Prop} {px : SX → Prop} {B : S → State → Prop} {BX : String → SX → State → Prop} {AX : Nat → Prop} (hr : vx_Run p l e R s m args below meth c H locs cells slots mc ms (F0 m pc ls st0) rest (va_Qf post B A1 a) (vx_X px BX AX) free) (hS : va_S A0 H0 H locs) (hA : ∀ q, q < H.size → A1 q → A0 q) (hf : ∀ q, free q → A0 q) (hAX : ∀ q, q < H.size → AX q → A0 q)
    (kx : ∀ (E : String) (ce : Cell) (q9 : Addr) (u : SX) (t : State) (H1 : Heap) (locs1 : List Loc), t.heap = H1 → s.vm.Alike t.vm → px u → BX E u t → H.size ≤ H1.size → (∀ q : Nat, q < H.size → ¬ AX q → H1[q]? = H[q]?) → va_S A0 H0 H1 locs1 → H1[q9]? = some ce → ce.vm = .none → s.vm.findClass E = some ce.cls → vx_W p l e R s m args below meth c H1 locs1 (cells + mc) (slots + ms) Q (F0 m pc ls rest) q9)
    (kk : ∀ (r : UInt32) (u : S) (t : State) (H1 : Heap) (locs1 : List Loc), t.heap = H1 → s.vm.Alike t.vm → post r u → B u t → H.size ≤ H1.size → (∀ q : Nat, q < H.size → ¬ A1 q → H1[q]? = H[q]?) → va_S A0 H0 H1 locs1 → W p l e R s m args below meth c H1 locs1 (cells + mc) (slots + ms) Q (F0 m (pc + 3) ls (.float r :: rest))) : W p l e R s m args below meth c H locs cells slots Q (F0 m pc ls st0) := by
  intro T hT X
  rcases hr T hT X with ⟨v, st₀, t, T', L, h0, X', hL, e1, e2, ⟨⟨r, u, hv, hp, hb⟩, hF⟩, st⟩ | ⟨q, st₀, t, T', L, E, ce, h0, X', hL, e1, e2, ⟨u, hp, hb, hF⟩, hce, hcv, hcl, st⟩
  · cases hv
    obtain ⟨k1, k2, k3⟩ := vx_keep h0 e1 hS hA hf hL hF
    obtain ⟨t2, a1, b1⟩ := kk r u t T'.heap (locs ++ L) e1.symm (by rw [← e2]; exact X'.warmed.alike) hp hb k1 k2 k3 T' rfl X'
    exact ⟨t2, st t2 a1, b1⟩
  · obtain ⟨k1, k2, k3⟩ := vx_keep h0 e1 hS hAX hf hL hF
    obtain ⟨t2, a1, b1⟩ := kx E ce q u t T'.heap (locs ++ L) e1.symm (by rw [← e2]; exact X'.warmed.alike) hp hb k1 k2 k3 (by rw [e1]; exact hce) hcv hcl T' rfl X'
    exact ⟨t2, st.trans a1, b1⟩
theorem vx_calld {S SX : Type} {post : UInt64 → S → Prop} {px : SX → Prop} {B : S → State → Prop} {BX : String → SX → State → Prop} {AX : Nat → Prop} (hr : vx_Run p l e R s m args below meth c H locs cells slots mc ms (F0 m pc ls st0) rest (va_Qd post B A1 a) (vx_X px BX AX) free) (hS : va_S A0 H0 H locs) (hA : ∀ q, q < H.size → A1 q → A0 q) (hf : ∀ q, free q → A0 q) (hAX : ∀ q, q < H.size → AX q → A0 q)
    (kx : ∀ (E : String) (ce : Cell) (q9 : Addr) (u : SX) (t : State) (H1 : Heap) (locs1 : List Loc), t.heap = H1 → s.vm.Alike t.vm → px u → BX E u t → H.size ≤ H1.size → (∀ q : Nat, q < H.size → ¬ AX q → H1[q]? = H[q]?) → va_S A0 H0 H1 locs1 → H1[q9]? = some ce → ce.vm = .none → s.vm.findClass E = some ce.cls → vx_W p l e R s m args below meth c H1 locs1 (cells + mc) (slots + ms) Q (F0 m pc ls rest) q9)
    (kk : ∀ (r : UInt64) (u : S) (t : State) (H1 : Heap) (locs1 : List Loc), t.heap = H1 → s.vm.Alike t.vm → post r u → B u t → H.size ≤ H1.size → (∀ q : Nat, q < H.size → ¬ A1 q → H1[q]? = H[q]?) → va_S A0 H0 H1 locs1 → W p l e R s m args below meth c H1 locs1 (cells + mc) (slots + ms) Q (F0 m (pc + 3) ls (.double r :: rest))) : W p l e R s m args below meth c H locs cells slots Q (F0 m pc ls st0) := by
  intro T hT X
  rcases hr T hT X with ⟨v, st₀, t, T', L, h0, X', hL, e1, e2, ⟨⟨r, u, hv, hp, hb⟩, hF⟩, st⟩ | ⟨q, st₀, t, T', L, E, ce, h0, X', hL, e1, e2, ⟨u, hp, hb, hF⟩, hce, hcv, hcl, st⟩
  · cases hv
    obtain ⟨k1, k2, k3⟩ := vx_keep h0 e1 hS hA hf hL hF
    obtain ⟨t2, a1, b1⟩ := kk r u t T'.heap (locs ++ L) e1.symm (by rw [← e2]; exact X'.warmed.alike) hp hb k1 k2 k3 T' rfl X'
    exact ⟨t2, st t2 a1, b1⟩
  · obtain ⟨k1, k2, k3⟩ := vx_keep h0 e1 hS hAX hf hL hF
    obtain ⟨t2, a1, b1⟩ := kx E ce q u t T'.heap (locs ++ L) e1.symm (by rw [← e2]; exact X'.warmed.alike) hp hb k1 k2 k3 (by rw [e1]; exact hce) hcv hcl T' rfl X'
    exact ⟨t2, st.trans a1, b1⟩
theorem vx_callv {S SX : Type} {post : S → Prop} {px : SX → Prop} {B : S → State → Prop} {BX : String → SX → State → Prop} {AX : Nat → Prop} (hr : vx_Run p l e R s m args below meth c H locs cells slots mc ms (F0 m pc ls st0) rest (va_Qv post B A1 a) (vx_X px BX AX) free) (hS : va_S A0 H0 H locs) (hA : ∀ q, q < H.size → A1 q → A0 q) (hf : ∀ q, free q → A0 q) (hAX : ∀ q, q < H.size → AX q → A0 q)
    (kx : ∀ (E : String) (ce : Cell) (q9 : Addr) (u : SX) (t : State) (H1 : Heap) (locs1 : List Loc), t.heap = H1 → s.vm.Alike t.vm → px u → BX E u t → H.size ≤ H1.size → (∀ q : Nat, q < H.size → ¬ AX q → H1[q]? = H[q]?) → va_S A0 H0 H1 locs1 → H1[q9]? = some ce → ce.vm = .none → s.vm.findClass E = some ce.cls → vx_W p l e R s m args below meth c H1 locs1 (cells + mc) (slots + ms) Q (F0 m pc ls rest) q9)
    (kk : ∀ (u : S) (t : State) (H1 : Heap) (locs1 : List Loc), t.heap = H1 → s.vm.Alike t.vm → post u → B u t → H.size ≤ H1.size → (∀ q : Nat, q < H.size → ¬ A1 q → H1[q]? = H[q]?) → va_S A0 H0 H1 locs1 → W p l e R s m args below meth c H1 locs1 (cells + mc) (slots + ms) Q (F0 m (pc + 3) ls (rest))) : W p l e R s m args below meth c H locs cells slots Q (F0 m pc ls st0) := by
  intro T hT X
  rcases hr T hT X with ⟨v, st₀, t, T', L, h0, X', hL, e1, e2, ⟨⟨u, hv, hp, hb⟩, hF⟩, st⟩ | ⟨q, st₀, t, T', L, E, ce, h0, X', hL, e1, e2, ⟨u, hp, hb, hF⟩, hce, hcv, hcl, st⟩
  · cases hv
    obtain ⟨k1, k2, k3⟩ := vx_keep h0 e1 hS hA hf hL hF
    obtain ⟨t2, a1, b1⟩ := kk u t T'.heap (locs ++ L) e1.symm (by rw [← e2]; exact X'.warmed.alike) hp hb k1 k2 k3 T' rfl X'
    exact ⟨t2, st t2 a1, b1⟩
  · obtain ⟨k1, k2, k3⟩ := vx_keep h0 e1 hS hAX hf hL hF
    obtain ⟨t2, a1, b1⟩ := kx E ce q u t T'.heap (locs ++ L) e1.symm (by rw [← e2]; exact X'.warmed.alike) hp hb k1 k2 k3 (by rw [e1]; exact hce) hcv hcl T' rfl X'
    exact ⟨t2, st.trans a1, b1⟩
/-- caught by the row x of this method's table; the rows ahead don't take it -/
theorem vx_catch {own name : String} {E : String} {ce : Cell} {q : Addr} (hown : s.vm.findClass own = some m.cls) (pre : List ExceptionTableEntry) (x : ExceptionTableEntry) (suf : List ExceptionTableEntry) (hsplit : c.exceptionTable.toList = pre ++ x :: suf)
    (hpass : ∀ z ∈ pre, covers z pc = false ∨ (z.catchType ≠ 0 ∧ ∃ nm : String, (Cond.classLink own z.catchType nm).before args s = true ∧ va_Nc E nm s)) (hx : covers x pc = true) (h0 : x.catchType ≠ 0)
    (hlink : (Cond.classLink own x.catchType name).before args s = true) (hcast : (Cond.castable E name).before args s = true) (hcell : H[q]? = some ce) (hv : ce.vm = .none) (hcl : s.vm.findClass E = some ce.cls)
    (kk : W p l e R s m args below meth c H locs cells slots Q (F0 m x.handlerPc ls [.ref q])) : vx_W p l e R s m args below meth c H locs cells slots Q (F0 m pc ls rest) q := by
  intro T hT X
  have hpl : e.platform.magicAccessors = ({} : Platform).magicAccessors := by rw [X.admits.platform]
  obtain ⟨c3, c4, hc3, hc4, hasg⟩ := Cond.castable_spec hcast
  cases Option.some.inj (hc3.symm.trans hcl)
  obtain ⟨c5, hc5, hcl5⟩ := Cond.classLink_spec hown hlink e.platform hpl
  cases Option.some.inj (hc4.symm.trans hc5)
  obtain ⟨vm', X', st⟩ := X.thenCaughtThrough q (g := F0 m pc ls rest) rfl (Steps.refl _) (by rw [hT]; exact hcell) (by rw [hv]; rfl) (by obtain ⟨k9, h9, -⟩ := Vm.findClass_spec hcl; exact ⟨k9, h9⟩) pre x suf hsplit
    (fun z hz => by
      rcases hpass z hz with h | ⟨hz0, nm, hl1, hn1⟩
      · exact Or.inl h
      · obtain ⟨c6, hc6, hcl6⟩ := Cond.classLink_spec hown hl1 e.platform hpl
        obtain ⟨a8, b8, h1, h2, h3⟩ := hn1
        cases Option.some.inj (h1.symm.trans hcl)
        cases Option.some.inj (h2.symm.trans hc6)
        exact Or.inr ⟨hz0, _, hcl6, h3⟩) hx (Or.inr ⟨h0, c4, hcl5, hasg⟩)
  obtain ⟨t, a1, b1⟩ := kk (T.setVm vm') hT X'
  exact ⟨t, st.trans a1, b1⟩
end Rows
section Ends
variable {p : Program} {l : Launch} {e : Env} {R : Room} {s : State} {m : MethodId} {args : Array Value} {below : List Frame} {meth : Method} {c : Code} {H : Heap} {locs : List Loc} {cells slots : Nat} {Q : State → Prop}
variable {mc ms : Nat} {free : Addr → Prop} {A0 A1 : Nat → Prop} {H0 : Heap} {a : Array Value} {ls : Array Slot} {st0 rest : List Value}
variable {Qc : Array Value → State → Outcome → State → Prop} {XC : String → State → State → Prop}
/-- what a body that may throw owes at its end -/
def vx_MQ (below : List Frame) (Qc : Array Value → State → Outcome → State → Prop) (XC : String → State → State → Prop) (a : Array Value) (s : State) (mc ms : Nat) (free : Addr → Prop) : State → Prop := fun t =>
  ∃ o, t.status = .running ∧ Ended t below o ∧ vx_Q Qc XC mc ms free a s o t
theorem vx_ret {g : JFrame} {mc ms : Nat} (k : W p l e R s m args below meth c H locs cells slots (MQ below Qc args s mc ms free) g) : W p l e R s m args below meth c H locs cells slots (vx_MQ below Qc XC args s mc ms free) g := by
  intro T hT X
  obtain ⟨t, a1, o, b1, b2, b3, b4⟩ := k T hT X
  exact ⟨t, a1, o, b1, b2, Or.inl ⟨b3, b4⟩⟩
/-- not caught here: it goes on to the caller -/
theorem vx_widen {g : JFrame} {q : Addr} {k n : Nat} (h1 : cells ≤ k) (h2 : slots ≤ n) (kk : vx_W p l e R s m args below meth c H locs k n Q g q) : vx_W p l e R s m args below meth c H locs cells slots Q g q := fun T hT X => kk T hT (stand_widen X h1 h2)
theorem vx_out {pc : Nat} {E : String} {ce : Cell} {q : Addr} {mc ms : Nat} (hout : ∀ x ∈ c.exceptionTable.toList, covers x pc = false) (hlocks : meth.locks = false) (hcell : H[q]? = some ce) (hv : ce.vm = .none) (hcl : s.vm.findClass E = some ce.cls)
    (hx : ∀ t : State, t.heap = H → s.vm.Alike t.vm → XC E s t) (hf : ∀ z ∈ locs, free z.base) (hc : cells ≤ mc) (hs : slots ≤ ms) :
    vx_W p l e R s m args below meth c H locs cells slots (vx_MQ below Qc XC args s mc ms free) (F0 m pc ls rest) q := by
  intro T hT X
  obtain ⟨st1, hrun, hend, hW, hsm⟩ := X.leaveThrown q (g := F0 m pc ls rest) rfl rfl rfl hout hlocks
  have hcell9 : (T.setFrames (.throwing q :: below)).heap[q]? = some ce := by
    show T.heap[q]? = some ce
    rw [hT]; exact hcell
  exact ⟨_, st1, .threw q, hrun, hend, Or.inr ⟨q, rfl, E, ce, locs, hx _ hT hW.alike, hcell9, hv, hcl, hW, hsm.mono hc hs, hf⟩⟩
theorem vx_frame {U : State} {k n : Nat} (h : s.sameButNew ({ U with vm := s.vm } : State) locs k n) : s.heap.size ≤ U.heap.size ∧ ∀ q : Nat, q < s.heap.size → (∀ z ∈ locs, z.base ≠ q) → U.heap[q]? = s.heap[q]? := by
  obtain ⟨-, h2, -, -, -, h6⟩ := h
  refine ⟨h2, fun q hq hz => ?_⟩
  obtain ⟨c9, e1, e2, e3, e4⟩ := h6 q _ (Array.getElem?_eq_getElem hq)
  have hs : c9.slots = (s.heap[q]).slots := Array.ext_getElem? fun i => e4 i fun hm => hz _ hm rfl
  have h9 : c9 = s.heap[q] := by
    rw [hs] at e2
    exact e2
  have e5 : U.heap[q]? = some c9 := e1
  rw [e5, h9, Array.getElem?_eq_getElem hq]
/-- the words of a throw but the four that speak of the heap -/
def vx_no (w : Cond) : Bool := decide (w ≠ .isRef (.static Bundle.tN "UNASSIGNED_STACK" Bundle.steD)) && decide (w ≠ .isRef (.static Bundle.tN "SUPPRESSED_SENTINEL" Bundle.listD)) && decide (w ≠ .laysStatic Bundle.tN "UNASSIGNED_STACK" Bundle.steD) && decide (w ≠ .laysStatic Bundle.tN "SUPPRESSED_SENTINEL" Bundle.listD)
def vx_at0 (own : String) (ic : Nat) (X : String) (names : List String) : List Cond := (Bundle.ownAtoms0 own ic X names).filter vx_no
def vx_atS (own : String) (ic : Nat) (X : String) (names : List String) : List Cond := (Bundle.ownAtoms own ic X names).filter vx_no
/-- a word that the tables alone decide, or a good one -/
def vx_ot (w : Cond) : Bool := w.onTables || goodWord w
theorem vx_ot_at {args a' : Array Value} {s U : State} {w : Cond} (hW : s.WarmedH U.vm) (hvm : s.vm = U.vm) (hg : vx_ot w = true) (h : w.before args s = true) : w.before a' U = true := by
  simp only [vx_ot, Bool.or_eq_true] at hg
  rcases hg with hg | hg
  · exact va_tabs hg hvm h
  · exact word_at hW (good_of_word hg) h
/-- a list's words: the good ones out of the method's own list, the others by premises of their own -/
theorem vx_hat {args : Array Value} {s : State} {L B : List Cond} (h1 : ∀ w ∈ L.filter goodWord, w.before args s = true) (h2 : ∀ w ∈ L.filter (fun w => !goodWord w), w ∈ B) (h3 : ∀ w ∈ B, w.before args s = true) : ∀ w ∈ L, w.before args s = true := by
  intro w hw
  by_cases g : goodWord w = true
  · exact h1 w (List.mem_filter.mpr ⟨hw, g⟩)
  · refine h3 w (h2 w (List.mem_filter.mpr ⟨hw, ?_⟩))
    show (!goodWord w) = true
    cases hgw : goodWord w
    · rfl
    · exact absurd hgw g
theorem vx_c {args : Array Value} {s : State} {w : Cond} {B : List Cond} (h : w.before args s = true) (t : ∀ w ∈ B, w.before args s = true) : ∀ w' ∈ w :: B, w'.before args s = true := fun w' h' => (List.mem_cons.mp h').elim (fun e => by rw [e]; exact h) (t w')
theorem vx_n {args : Array Value} {s : State} : ∀ w ∈ ([] : List Cond), w.before args s = true := fun _ h => nomatch h
theorem vx_own {args : Array Value} {s : State} {L : List Cond} (h1 : ∀ w ∈ L.filter vx_no, w.before args s = true)
    (hU : (Cond.isRef (.static Bundle.tN "UNASSIGNED_STACK" Bundle.steD)).before args s = true) (hN : (Cond.isRef (.static Bundle.tN "SUPPRESSED_SENTINEL" Bundle.listD)).before args s = true)
    (lU : (Cond.laysStatic Bundle.tN "UNASSIGNED_STACK" Bundle.steD).before args s = true) (lN : (Cond.laysStatic Bundle.tN "SUPPRESSED_SENTINEL" Bundle.listD).before args s = true) : ∀ w ∈ L, w.before args s = true := by
  intro w hw
  by_cases e1 : w = .isRef (.static Bundle.tN "UNASSIGNED_STACK" Bundle.steD)
  · rw [e1]; exact hU
  · by_cases e2 : w = .isRef (.static Bundle.tN "SUPPRESSED_SENTINEL" Bundle.listD)
    · rw [e2]; exact hN
    · by_cases e3 : w = .laysStatic Bundle.tN "UNASSIGNED_STACK" Bundle.steD
      · rw [e3]; exact lU
      · by_cases e4 : w = .laysStatic Bundle.tN "SUPPRESSED_SENTINEL" Bundle.listD
        · rw [e4]; exact lN
        · exact h1 w (List.mem_filter.mpr ⟨hw, by unfold vx_no; rw [decide_eq_true e1, decide_eq_true e2, decide_eq_true e3, decide_eq_true e4]; rfl⟩)
/-- where a static field lies, its class's statics cell in H -/
def vx_L (C n d : String) (A : Nat → Prop) (U : State) (H : Heap) : Prop := ∃ (c : ClassId) (k : Class) (i : Nat) (f : Field) (a : Nat) (cell : Cell), U.vm.findClass C = some c ∧ U.fieldFound? C n d = some (c, k, i, f) ∧ f.isStatic = true ∧ k.statics = some a ∧ H[a]? = some cell ∧ cell.vm.isStatics = true ∧ cell.cls = c ∧ f.slot < cell.slots.size ∧ k.staticTypes[f.slot]? = some f.type ∧ ¬ A a
theorem vx_L.moved {C n d : String} {A : Nat → Prop} {u U : State} {H : Heap} (hvm : u.vm.Alike U.vm) (h : vx_L C n d A u H) : vx_L C n d A U H := by
  obtain ⟨c, k, i, f, a, cell, h1, h2, h3, h4, h5, h6, h7, h8, h9, h10⟩ := h
  obtain ⟨k', hi', he⟩ := State.fieldFound?_setVm hvm h2
  exact ⟨c, k', i, f, a, cell, by rw [hvm.findClass]; exact h1, hi', h3, by rw [he]; exact h4, h5, h6, h7, h8, by rw [he]; exact h9, h10⟩
theorem vx_L.kept {C n d : String} {A : Nat → Prop} {U : State} {H H1 : Heap} (h : vx_L C n d A U H) (hq : ∀ a : Nat, a < H.size → ¬ A a → H1[a]? = H[a]?) : vx_L C n d A U H1 := by
  obtain ⟨c, k, i, f, a, cell, h1, h2, h3, h4, h5, h6, h7, h8, h9, h10⟩ := h
  exact ⟨c, k, i, f, a, cell, h1, h2, h3, h4, by rw [hq a (Array.getElem?_eq_some_iff.mp h5).1 h10]; exact h5, h6, h7, h8, h9, h10⟩
theorem vx_L.narrow {C n d : String} {A B : Nat → Prop} {U : State} {H : Heap} (h : vx_L C n d A U H) (hAB : ∀ q, B q → A q) : vx_L C n d B U H := by
  obtain ⟨c, k, i, f, a, cell, h1, h2, h3, h4, h5, h6, h7, h8, h9, h10⟩ := h
  exact ⟨c, k, i, f, a, cell, h1, h2, h3, h4, h5, h6, h7, h8, h9, fun z => h10 (hAB _ z)⟩
theorem vx_L.word {C n d : String} {A : Nat → Prop} {s : State} {args : Array Value} (h : vx_L C n d A s s.heap) : (Cond.laysStatic C n d).before args s = true := by
  obtain ⟨c, k, i, f, a, cell, h1, h2, h3, h4, h5, h6, h7, h8, h9, -⟩ := h
  show (Cond.laysStatic C n d).holds args s none s [] = true
  exact Cond.laysStatic_of h1 h2 h3 h4 h5 h6 h7 h8 h9
/-- .. and what it holds: null or some reference -/
def vx_Zq (C n d : String) (A : Nat → Prop) (U : State) (H : Heap) : Prop := va_Zq C n d A U H ∧ vx_L C n d A U H
theorem vx_Zq.moved {C n d : String} {A : Nat → Prop} {u U : State} {H : Heap} (hvm : u.vm.Alike U.vm) (h : vx_Zq C n d A u H) : vx_Zq C n d A U H := ⟨va_Zq.moved hvm h.1, vx_L.moved hvm h.2⟩
theorem vx_Zq.kept {C n d : String} {A : Nat → Prop} {U : State} {H H1 : Heap} (h : vx_Zq C n d A U H) (hq : ∀ a : Nat, a < H.size → ¬ A a → H1[a]? = H[a]?) : vx_Zq C n d A U H1 := ⟨va_Zq.kept h.1 hq, vx_L.kept h.2 hq⟩
theorem vx_Zq.narrow {C n d : String} {A B : Nat → Prop} {U : State} {H : Heap} (h : vx_Zq C n d A U H) (hAB : ∀ q, B q → A q) : vx_Zq C n d B U H := ⟨va_Zq.narrow h.1 hAB, vx_L.narrow h.2 hAB⟩
theorem vx_Zqof {args : Array Value} {s : State} {C n d : String} {A : Nat → Prop} (hl : (Cond.laysStatic C n d).before args s = true) (hini : (Cond.initialized C).before args s = true) (h : (Cond.isRef (.static C n d)).before args s = true) (hA : ∀ a : Nat, a < s.heap.size → ¬ A a) : vx_Zq C n d A s s.heap := by
  refine ⟨va_Zqof hl hini h hA, ?_⟩
  obtain ⟨c, k, i, f, a, cell, h1, h2, h3, h4, h5, h6, h7, h8, h9⟩ := Cond.laysStatic_spec hl
  exact ⟨c, k, i, f, a, cell, h1, h2, h3, h4, h5, h6, h7, h8, h9, hA a (Array.getElem?_eq_some_iff.mp h5).1⟩
theorem vx_isRef {C n d : String} {v : Value} {A : Nat → Prop} {s : State} {args : Array Value} (h : va_Z C n d v A s s.heap) (hv : v.isRef = true) : (Cond.isRef (.static C n d)).before args s = true := by
  obtain ⟨cf, kf, fi, f, a, cell, h1, h2, h3, h4, h5, h6, h7, -⟩ := h
  have he : (Term.static C n d).eval args s none [] s = some v := by
    simp [Term.eval, State.fieldNamed?, h1, h2, h4, h5, h6, h7]
  simp only [Cond.before, Cond.holds, Cond.value, he]
  cases v <;> simp_all [Value.isRef]
theorem vx_isRefq {C n d : String} {A : Nat → Prop} {s : State} {args : Array Value} (h : va_Zq C n d A s s.heap) : (Cond.isRef (.static C n d)).before args s = true := by
  rcases h with h | ⟨t, h⟩
  · exact vx_isRef h rfl
  · exact vx_isRef h rfl
/-- the same frame, seen from here: as if the method were called anew in this heap -/
theorem vx_rebase {T : State} (X : Stand p l e R s m args below meth c T locs cells slots) {R' : Room} (hf : R'.frames ≤ R.frames) (hl : R'.locals ≤ R.locals) (hc : cells + R'.cells ≤ R.cells) (hs : slots + R'.slots ≤ R.slots) :
    Stand p l e R' ((T.setVm s.vm).setFrames (.invoking m args :: below)) m args below meth c T [] 0 0 := by
  have htop : (T.setVm s.vm).topJava?.isSome := X.here.top
  have hF : ((T.setVm s.vm).setFrames (.invoking m args :: below)).frames = .invoking m args :: below := State.frames_setFrames _ (State.cur_lt_of_top htop)
  obtain ⟨g₀, hg0⟩ := Option.isSome_iff_exists.mp htop
  obtain ⟨r, hr⟩ := State.topJava?_eq_some.mp hg0
  have hl9 : e.platform.stackLimits (T.setVm s.vm).me = e.platform.stackLimits s.me := X.limits
  have hb9 : (T.setVm s.vm).me.stackBytes = s.me.stackBytes := X.bytes
  refine ⟨X.admits, X.cas, X.clock, hF, ?_, X.hears, X.method, X.code, X.here, X.tail, X.warmed, ?_, ?_, ?_⟩
  · have h := X.room
    have hU : ((T.setVm s.vm).setFrames (.invoking m args :: below)).localsInUse = s.localsInUse := by
      rw [State.localsInUse_invoking hF (meth := meth) (c := c) X.method X.code, State.localsInUse_invoking X.frames X.method X.code]
    simp only [State.hasRoom, Bool.and_eq_true, decide_eq_true_eq] at h ⊢
    obtain ⟨⟨⟨⟨h1, h2, h3, h4, h5, h6⟩, h7⟩, h8⟩, h9⟩ := h
    rw [X.frames, List.length_cons] at h2 h3
    have q1 := X.heapSize
    have q2 := X.used
    simp only [hF, hU, List.length_cons, State.stackLimits_setFrames, State.stackBytes_setFrames, hl9, hb9]
    refine ⟨⟨⟨⟨by omega, by omega, by omega, by omega, by omega, h6⟩, ?_⟩, ?_⟩, X.book⟩
    · show T.heap.size + R'.cells ≤ e.platform.maxCells
      omega
    · show T.slotsUsed + R'.slots ≤ e.platform.maxSlots
      omega
  · rw [State.stackLimits_setFrames]; rfl
  · rw [State.stackBytes_setFrames]; rfl
  · refine ⟨?_, Nat.le_refl _, Nat.le_refl _, ?_, ?_, fun a c9 h9 => ⟨c9, h9, rfl, rfl, fun _ _ => rfl⟩⟩
    · obtain ⟨t, ht, -⟩ := State.frames_cons hr
      show T.setVm s.vm = { ((T.setVm s.vm).setFrames (.invoking m args :: below)).setFrames (T.setVm s.vm).frames with heap := T.heap, slotsUsed := T.slotsUsed }
      rw [State.setFrames_setFrames, State.setFrames_self ht]
      rfl
    · show T.slotsUsed = T.slotsUsed + ((T.heap.toList.drop T.heap.size).map (·.slots.size)).sum
      rw [List.drop_eq_nil_of_le (Nat.le_of_eq Array.length_toList)]
      rfl
    · show ((T.heap.toList.drop T.heap.size).map (·.slots.size)).sum ≤ 0
      rw [List.drop_eq_nil_of_le (Nat.le_of_eq Array.length_toList)]
      exact Nat.le_refl _
/-- 'throw new E()': new; dup; invokespecial; athrow -/
theorem vx_throw0 {cc : ByteArray} {pc : Nat} (hexec : p.tables.exec = Jvm.exec) (hb : c.code = cc) (hl : l.stackTraces = false) {own cls : String} {names : List String} {ik ic mc ms : Nat} {A : Nat → Prop}
    (hown : s.vm.findClass own = some m.cls) (hcls : Bundle.fit cls = true) (hnames : ∀ n ∈ names, Bundle.fit n = true)
    (hk : (Cond.classLink own ik cls).before args s = true) (hini : (Cond.initialized cls).before args s = true) (hat : ∀ w ∈ vx_at0 own ic cls names, w.before args s = true)
    (hgood : ∀ w ∈ Cond.classLink own ik cls :: Cond.initialized cls :: vx_at0 own ic cls names, vx_ot w = true)
    (hU : vx_Zq Bundle.tN "UNASSIGNED_STACK" Bundle.steD A s s.heap) (hN : vx_Zq Bundle.tN "SUPPRESSED_SENTINEL" Bundle.listD A s s.heap) (hS : va_S A s.heap H locs) (hsize : ls.size = c.maxLocals)
    (d0 : decode cc pc = .ok (.new ik, 3)) (d3 : decode cc (pc + 3) = .ok (.dup, 1)) (d4 : decode cc (pc + 4) = .ok (.invokespecial ic, 3)) (d7 : decode cc (pc + 7) = .ok (.athrow, 1))
    (hout : ∀ x ∈ c.exceptionTable.toList, covers x (pc + 7) = false)
    (hRframes : names.length + 3 < R.frames) (hRlocals : (rest.map fun v => v.category).sum + (13 * (names.length + 1) + 42) ≤ R.locals) (hRcells : cells + 1 ≤ R.cells) (hRslots : slots + 6 ≤ R.slots) (hlocks : meth.locks = false)
    (hx : ∀ t : State, s.vm.Alike t.vm → H.size ≤ t.heap.size → (∀ q : Nat, q < H.size → t.heap[q]? = H[q]?) → XC cls s t)
    (hf : ∀ z ∈ locs, free z.base) (hc : cells + 1 ≤ mc) (hs : slots + 6 ≤ ms) :
    W p l e R s m args below meth c H locs cells slots (vx_MQ below Qc XC args s mc ms free) (F0 m pc ls rest) := by
  intro T hT X
  have htr : e.platform.stackTraces = false := (show e.platform.stackTraces = l.stackTraces by rw [X.admits.platform]).trans hl
  have Y := vx_rebase X (R' := { frames := R.frames, locals := R.locals, cells := 1, slots := 6 }) (Nat.le_refl _) (Nat.le_refl _) hRcells hRslots
  obtain ⟨s', hA⟩ : ∃ z, z = (T.setVm s.vm).setFrames (.invoking m args :: below) := ⟨_, rfl⟩
  rw [← hA] at Y
  have hvm : s'.vm = s.vm := by rw [hA]; rfl
  have hhp : s'.heap = H := by rw [hA]; exact hT
  have hW0 : s.WarmedH s'.vm := by rw [hvm]; exact State.WarmedH.refl s
  have hat' : ∀ w ∈ vx_at0 own ic cls names, w.before args s' = true := fun w hw => vx_ot_at hW0 hvm.symm (hgood w (List.mem_cons_of_mem _ (List.mem_cons_of_mem _ hw))) (hat w hw)
  have hk' : (Cond.classLink own ik cls).before args s' = true := vx_ot_at hW0 hvm.symm (hgood _ List.mem_cons_self) hk
  have hini' : (Cond.initialized cls).before args s' = true := vx_ot_at hW0 hvm.symm (hgood _ (List.mem_cons_of_mem _ List.mem_cons_self)) hini
  have hU' : vx_Zq Bundle.tN "UNASSIGNED_STACK" Bundle.steD A s' s'.heap := by rw [hhp]; exact vx_Zq.moved hW0.alike (hU.kept hS.2.1)
  have hN' : vx_Zq Bundle.tN "SUPPRESSED_SENTINEL" Bundle.listD A s' s'.heap := by rw [hhp]; exact vx_Zq.moved hW0.alike (hN.kept hS.2.1)
  have h : ∀ w ∈ Bundle.ownAtoms0 own ic cls names, w.before args s' = true := vx_own hat' (vx_isRefq hU'.1) (vx_isRefq hN'.1) hU'.2.word hN'.2.word
  have hown' : s'.vm.findClass own = some m.cls := by rw [hvm]; exact hown
  have hins : (Cond.instantiable cls 6).before args s' = true := h _ (by simp [Bundle.ownAtoms0])
  obtain ⟨vm₁, cX, kX, hfX, hkX, -, -, X₁, st1⟩ := Y.newCold hexec (own := own) (C := cls) (index := ik) (n := 6) hown' hk' hins hini'
    (g := F0 m pc ls rest) rfl (by rw [hb]; exact d0) (Nat.le_refl _) (Nat.le_refl _)
  generalize hT1 : (T.setVm vm₁).pushCell { cls := cX, slots := kX.instanceTypes.map defaultValue, vm := .none } = T1 at X₁ st1
  have hcat : (Value.ref T.heap.size).category = 1 := rfl
  have hcellA : T1.heap[T.heap.size]? = some (freshCell cX kX) := by rw [← hT1]; exact State.heap_pushCell_size _ _
  have d3' : decode c.code (pc + 3) = .ok (.dup, 1) := by rw [hb]; exact d3
  obtain ⟨U, hsteps, hrun, hend, hW, hsame, ce, hce, hO⟩ := X₁.ctorThrow0 hexec htr (own := own) (cls := cls) (names := names) (ic := ic) hown' hcls hnames h (fun x hx => nomatch hx) hfX hkX hcellA (by rw [hhp, hT]; exact Nat.le_refl _)
    (g := { method := m, pc := pc + 4, locals := ls, stack := .ref T.heap.size :: .ref T.heap.size :: rest, locked := none }) rfl hsize rfl rfl (rest := rest) rfl
    (by rw [hb]; exact d4) (by rw [hb]; exact d7) hout hRframes (by simp only [List.map_cons, List.sum_cons, hcat]; omega) hlocks
  obtain ⟨f1, f2⟩ := vx_frame hsame
  rw [hhp] at f1 f2
  have hWs : s.WarmedH U.vm := State.WarmedH.trans hW0 hW
  have hcl : s.vm.findClass cls = some ce.cls := by
    have h9 := hO.cls
    rw [hvm] at h9
    exact h9
  have hall : s.sameButNew ({ U with vm := s.vm } : State) locs mc ms := by
    subst hA
    obtain ⟨e1, e2⟩ := hsame
    rw [State.setFrames_setFrames] at e1
    have h2 : (T.setVm s.vm).sameButNew ({ U with vm := s.vm } : State) [] (0 + 1) (0 + 6) := ⟨e1, e2⟩
    have h3 := X.same.trans h2
    rw [List.append_nil] at h3
    exact h3.mono hc hs
  refine ⟨U, ?_, .threw T.heap.size, hrun, hend, Or.inr ⟨T.heap.size, rfl, cls, ce, locs, hx U hWs.alike f1 (fun q hq => f2 q hq (fun z hz => nomatch hz)), hce, hO.vm, hcl, hWs, hall, hf⟩⟩
  refine st1 _ ?_
  show Steps p.tables e below (T1.setTop { method := m, pc := pc + 3, locals := ls, stack := .ref T.heap.size :: rest, locked := none }) _
  jvm_step X₁.here [X₁.here.top, hexec, d3', Value.category]
  exact hsteps
/-- 'throw new E("text")': new; dup; ldc; invokespecial; athrow -/
theorem vx_throwS {cc : ByteArray} {pc : Nat} (hexec : p.tables.exec = Jvm.exec) (hb : c.code = cc) (hl : l.stackTraces = false) {own cls text : String} {names : List String} {ik is ic mc ms sa : Nat} {A : Nat → Prop}
    (hown : s.vm.findClass own = some m.cls) (hcls : Bundle.fit cls = true) (hnames : ∀ n ∈ names, Bundle.fit n = true)
    (hk : (Cond.classLink own ik cls).before args s = true) (hini : (Cond.initialized cls).before args s = true) (hstr : vk_R own is text sa s) (hat : ∀ w ∈ vx_atS own ic cls names, w.before args s = true)
    (hgood : ∀ w ∈ Cond.classLink own ik cls :: Cond.initialized cls :: vx_atS own ic cls names, vx_ot w = true)
    (hU : vx_Zq Bundle.tN "UNASSIGNED_STACK" Bundle.steD A s s.heap) (hN : vx_Zq Bundle.tN "SUPPRESSED_SENTINEL" Bundle.listD A s s.heap) (hS : va_S A s.heap H locs) (hsize : ls.size = c.maxLocals)
    (d0 : decode cc pc = .ok (.new ik, 3)) (d3 : decode cc (pc + 3) = .ok (.dup, 1)) (d4 : decode cc (pc + 4) = .ok (.ldc is, 2)) (d6 : decode cc (pc + 6) = .ok (.invokespecial ic, 3)) (d9 : decode cc (pc + 9) = .ok (.athrow, 1))
    (hout : ∀ x ∈ c.exceptionTable.toList, covers x (pc + 9) = false)
    (hRframes : names.length + 3 < R.frames) (hRlocals : (rest.map fun v => v.category).sum + (13 * (names.length + 1) + 43) ≤ R.locals) (hRcells : cells + 1 ≤ R.cells) (hRslots : slots + 6 ≤ R.slots) (hlocks : meth.locks = false)
    (hx : ∀ t : State, s.vm.Alike t.vm → H.size ≤ t.heap.size → (∀ q : Nat, q < H.size → t.heap[q]? = H[q]?) → XC cls s t)
    (hf : ∀ z ∈ locs, free z.base) (hc : cells + 1 ≤ mc) (hs : slots + 6 ≤ ms) :
    W p l e R s m args below meth c H locs cells slots (vx_MQ below Qc XC args s mc ms free) (F0 m pc ls rest) := by
  intro T hT X
  have htr : e.platform.stackTraces = false := (show e.platform.stackTraces = l.stackTraces by rw [X.admits.platform]).trans hl
  have Y := vx_rebase X (R' := { frames := R.frames, locals := R.locals, cells := 1, slots := 6 }) (Nat.le_refl _) (Nat.le_refl _) hRcells hRslots
  obtain ⟨s', hA⟩ : ∃ z, z = (T.setVm s.vm).setFrames (.invoking m args :: below) := ⟨_, rfl⟩
  rw [← hA] at Y
  have hvm : s'.vm = s.vm := by rw [hA]; rfl
  have hhp : s'.heap = H := by rw [hA]; exact hT
  have hW0 : s.WarmedH s'.vm := by rw [hvm]; exact State.WarmedH.refl s
  have hat' : ∀ w ∈ vx_atS own ic cls names, w.before args s' = true := fun w hw => vx_ot_at hW0 hvm.symm (hgood w (List.mem_cons_of_mem _ (List.mem_cons_of_mem _ hw))) (hat w hw)
  have hk' : (Cond.classLink own ik cls).before args s' = true := vx_ot_at hW0 hvm.symm (hgood _ List.mem_cons_self) hk
  have hini' : (Cond.initialized cls).before args s' = true := vx_ot_at hW0 hvm.symm (hgood _ (List.mem_cons_of_mem _ List.mem_cons_self)) hini
  have hU' : vx_Zq Bundle.tN "UNASSIGNED_STACK" Bundle.steD A s' s'.heap := by rw [hhp]; exact vx_Zq.moved hW0.alike (hU.kept hS.2.1)
  have hN' : vx_Zq Bundle.tN "SUPPRESSED_SENTINEL" Bundle.listD A s' s'.heap := by rw [hhp]; exact vx_Zq.moved hW0.alike (hN.kept hS.2.1)
  have h : ∀ w ∈ Bundle.ownAtoms own ic cls names, w.before args s' = true := vx_own hat' (vx_isRefq hU'.1) (vx_isRefq hN'.1) hU'.2.word hN'.2.word
  have hown' : s'.vm.findClass own = some m.cls := by rw [hvm]; exact hown
  have hins : (Cond.instantiable cls 6).before args s' = true := h _ (by simp [Bundle.ownAtoms])
  obtain ⟨vm₁, cX, kX, hfX, hkX, -, -, X₁, st1⟩ := Y.newCold hexec (own := own) (C := cls) (index := ik) (n := 6) hown' hk' hins hini'
    (g := F0 m pc ls rest) rfl (by rw [hb]; exact d0) (Nat.le_refl _) (Nat.le_refl _)
  generalize hT1 : (T.setVm vm₁).pushCell { cls := cX, slots := kX.instanceTypes.map defaultValue, vm := .none } = T1 at X₁ st1
  have hcat : (Value.ref T.heap.size).category = 1 := rfl
  have hcellA : T1.heap[T.heap.size]? = some (freshCell cX kX) := by rw [← hT1]; exact State.heap_pushCell_size _ _
  have d3' : decode c.code (pc + 3) = .ok (.dup, 1) := by rw [hb]; exact d3
  have d4' : decode c.code (pc + 4) = .ok (.ldc is, 2) := by rw [hb]; exact d4
  have hstr' : vk_R own is text sa s' := vk_R.warm hW0 hstr
  obtain ⟨U, hsteps, hrun, hend, hW, hsame, ce, hce, hO⟩ := X₁.ctorThrowS hexec htr (own := own) (cls := cls) (names := names) (ic := ic) hown' hcls hnames h (fun x hx => nomatch hx) hfX hkX hcellA (by rw [hhp, hT]; exact Nat.le_refl _) (msg := .ref sa) rfl
    (g := { method := m, pc := pc + 6, locals := ls, stack := .ref sa :: .ref T.heap.size :: .ref T.heap.size :: rest, locked := none }) rfl hsize rfl rfl (rest := rest) rfl
    (by rw [hb]; exact d6) (by rw [hb]; exact d9) hout hRframes (by simp only [List.map_cons, List.sum_cons, hcat]; omega) hlocks
  obtain ⟨f1, f2⟩ := vx_frame hsame
  rw [hhp] at f1 f2
  have hWs : s.WarmedH U.vm := State.WarmedH.trans hW0 hW
  have hcl : s.vm.findClass cls = some ce.cls := by
    have h9 := hO.cls
    rw [hvm] at h9
    exact h9
  have hall : s.sameButNew ({ U with vm := s.vm } : State) locs mc ms := by
    subst hA
    obtain ⟨e1, e2⟩ := hsame
    rw [State.setFrames_setFrames] at e1
    have h2 : (T.setVm s.vm).sameButNew ({ U with vm := s.vm } : State) [] (0 + 1) (0 + 6) := ⟨e1, e2⟩
    have h3 := X.same.trans h2
    rw [List.append_nil] at h3
    exact h3.mono hc hs
  refine ⟨U, ?_, .threw T.heap.size, hrun, hend, Or.inr ⟨T.heap.size, rfl, cls, ce, locs, hx U hWs.alike f1 (fun q hq => f2 q hq (fun z hz => nomatch hz)), hce, hO.vm, hcl, hWs, hall, hf⟩⟩
  refine st1 _ ?_
  show Steps p.tables e below (T1.setTop { method := m, pc := pc + 3, locals := ls, stack := .ref T.heap.size :: rest, locked := none }) _
  jvm_step X₁.here [X₁.here.top, hexec, d3', Value.category]
  exact X₁.ldcString hexec (own := own) (text := text) (index := is) (a := sa) hown' hstr'.1 hstr'.2
    (g := { method := m, pc := pc + 4, locals := ls, stack := .ref T.heap.size :: .ref T.heap.size :: rest, locked := none }) rfl d4' _ hsteps
/-- 'throw new E("text")', the text by a wide index -/
theorem vx_throwSW {cc : ByteArray} {pc : Nat} (hexec : p.tables.exec = Jvm.exec) (hb : c.code = cc) (hl : l.stackTraces = false) {own cls text : String} {names : List String} {ik is ic mc ms sa : Nat} {A : Nat → Prop}
    (hown : s.vm.findClass own = some m.cls) (hcls : Bundle.fit cls = true) (hnames : ∀ n ∈ names, Bundle.fit n = true)
    (hk : (Cond.classLink own ik cls).before args s = true) (hini : (Cond.initialized cls).before args s = true) (hstr : vk_R own is text sa s) (hat : ∀ w ∈ vx_atS own ic cls names, w.before args s = true)
    (hgood : ∀ w ∈ Cond.classLink own ik cls :: Cond.initialized cls :: vx_atS own ic cls names, vx_ot w = true)
    (hU : vx_Zq Bundle.tN "UNASSIGNED_STACK" Bundle.steD A s s.heap) (hN : vx_Zq Bundle.tN "SUPPRESSED_SENTINEL" Bundle.listD A s s.heap) (hS : va_S A s.heap H locs) (hsize : ls.size = c.maxLocals)
    (d0 : decode cc pc = .ok (.new ik, 3)) (d3 : decode cc (pc + 3) = .ok (.dup, 1)) (d4 : decode cc (pc + 4) = .ok (.ldc_w is, 3)) (d7 : decode cc (pc + 7) = .ok (.invokespecial ic, 3)) (d10 : decode cc (pc + 10) = .ok (.athrow, 1))
    (hout : ∀ x ∈ c.exceptionTable.toList, covers x (pc + 10) = false)
    (hRframes : names.length + 3 < R.frames) (hRlocals : (rest.map fun v => v.category).sum + (13 * (names.length + 1) + 43) ≤ R.locals) (hRcells : cells + 1 ≤ R.cells) (hRslots : slots + 6 ≤ R.slots) (hlocks : meth.locks = false)
    (hx : ∀ t : State, s.vm.Alike t.vm → H.size ≤ t.heap.size → (∀ q : Nat, q < H.size → t.heap[q]? = H[q]?) → XC cls s t)
    (hf : ∀ z ∈ locs, free z.base) (hc : cells + 1 ≤ mc) (hs : slots + 6 ≤ ms) :
    W p l e R s m args below meth c H locs cells slots (vx_MQ below Qc XC args s mc ms free) (F0 m pc ls rest) := by
  intro T hT X
  have htr : e.platform.stackTraces = false := (show e.platform.stackTraces = l.stackTraces by rw [X.admits.platform]).trans hl
  have Y := vx_rebase X (R' := { frames := R.frames, locals := R.locals, cells := 1, slots := 6 }) (Nat.le_refl _) (Nat.le_refl _) hRcells hRslots
  obtain ⟨s', hA⟩ : ∃ z, z = (T.setVm s.vm).setFrames (.invoking m args :: below) := ⟨_, rfl⟩
  rw [← hA] at Y
  have hvm : s'.vm = s.vm := by rw [hA]; rfl
  have hhp : s'.heap = H := by rw [hA]; exact hT
  have hW0 : s.WarmedH s'.vm := by rw [hvm]; exact State.WarmedH.refl s
  have hat' : ∀ w ∈ vx_atS own ic cls names, w.before args s' = true := fun w hw => vx_ot_at hW0 hvm.symm (hgood w (List.mem_cons_of_mem _ (List.mem_cons_of_mem _ hw))) (hat w hw)
  have hk' : (Cond.classLink own ik cls).before args s' = true := vx_ot_at hW0 hvm.symm (hgood _ List.mem_cons_self) hk
  have hini' : (Cond.initialized cls).before args s' = true := vx_ot_at hW0 hvm.symm (hgood _ (List.mem_cons_of_mem _ List.mem_cons_self)) hini
  have hU' : vx_Zq Bundle.tN "UNASSIGNED_STACK" Bundle.steD A s' s'.heap := by rw [hhp]; exact vx_Zq.moved hW0.alike (hU.kept hS.2.1)
  have hN' : vx_Zq Bundle.tN "SUPPRESSED_SENTINEL" Bundle.listD A s' s'.heap := by rw [hhp]; exact vx_Zq.moved hW0.alike (hN.kept hS.2.1)
  have h : ∀ w ∈ Bundle.ownAtoms own ic cls names, w.before args s' = true := vx_own hat' (vx_isRefq hU'.1) (vx_isRefq hN'.1) hU'.2.word hN'.2.word
  have hown' : s'.vm.findClass own = some m.cls := by rw [hvm]; exact hown
  have hins : (Cond.instantiable cls 6).before args s' = true := h _ (by simp [Bundle.ownAtoms])
  obtain ⟨vm₁, cX, kX, hfX, hkX, -, -, X₁, st1⟩ := Y.newCold hexec (own := own) (C := cls) (index := ik) (n := 6) hown' hk' hins hini'
    (g := F0 m pc ls rest) rfl (by rw [hb]; exact d0) (Nat.le_refl _) (Nat.le_refl _)
  generalize hT1 : (T.setVm vm₁).pushCell { cls := cX, slots := kX.instanceTypes.map defaultValue, vm := .none } = T1 at X₁ st1
  have hcat : (Value.ref T.heap.size).category = 1 := rfl
  have hcellA : T1.heap[T.heap.size]? = some (freshCell cX kX) := by rw [← hT1]; exact State.heap_pushCell_size _ _
  have d3' : decode c.code (pc + 3) = .ok (.dup, 1) := by rw [hb]; exact d3
  have d4' : decode c.code (pc + 4) = .ok (.ldc_w is, 3) := by rw [hb]; exact d4
  have hstr' : vk_R own is text sa s' := vk_R.warm hW0 hstr
  obtain ⟨U, hsteps, hrun, hend, hW, hsame, ce, hce, hO⟩ := X₁.ctorThrowS hexec htr (own := own) (cls := cls) (names := names) (ic := ic) hown' hcls hnames h (fun x hx => nomatch hx) hfX hkX hcellA (by rw [hhp, hT]; exact Nat.le_refl _) (msg := .ref sa) rfl
    (g := { method := m, pc := pc + 7, locals := ls, stack := .ref sa :: .ref T.heap.size :: .ref T.heap.size :: rest, locked := none }) rfl hsize rfl rfl (rest := rest) rfl
    (by rw [hb]; exact d7) (by rw [hb]; exact d10) hout hRframes (by simp only [List.map_cons, List.sum_cons, hcat]; omega) hlocks
  obtain ⟨f1, f2⟩ := vx_frame hsame
  rw [hhp] at f1 f2
  have hWs : s.WarmedH U.vm := State.WarmedH.trans hW0 hW
  have hcl : s.vm.findClass cls = some ce.cls := by
    have h9 := hO.cls
    rw [hvm] at h9
    exact h9
  have hall : s.sameButNew ({ U with vm := s.vm } : State) locs mc ms := by
    subst hA
    obtain ⟨e1, e2⟩ := hsame
    rw [State.setFrames_setFrames] at e1
    have h2 : (T.setVm s.vm).sameButNew ({ U with vm := s.vm } : State) [] (0 + 1) (0 + 6) := ⟨e1, e2⟩
    have h3 := X.same.trans h2
    rw [List.append_nil] at h3
    exact h3.mono hc hs
  refine ⟨U, ?_, .threw T.heap.size, hrun, hend, Or.inr ⟨T.heap.size, rfl, cls, ce, locs, hx U hWs.alike f1 (fun q hq => f2 q hq (fun z hz => nomatch hz)), hce, hO.vm, hcl, hWs, hall, hf⟩⟩
  refine st1 _ ?_
  show Steps p.tables e below (T1.setTop { method := m, pc := pc + 3, locals := ls, stack := .ref T.heap.size :: rest, locked := none }) _
  jvm_step X₁.here [X₁.here.top, hexec, d3', Value.category]
  exact X₁.ldcStringW hexec (own := own) (text := text) (index := is) (a := sa) hown' hstr'.1 hstr'.2
    (g := { method := m, pc := pc + 4, locals := ls, stack := .ref T.heap.size :: .ref T.heap.size :: rest, locked := none }) rfl d4' _ hsteps
end Ends
section Bodies
variable {l : Launch}
theorem vx_ofW {y : MethodName} {ws ws' : List Cond} {rm : Room} {Pc : Array Value → State → Prop} {Qc : Array Value → State → Outcome → State → Prop} {XC : String → State → State → Prop} {mc ms : Nat} {free : Addr → Prop} {cc : ByteArray} {maxL : Nat} {ret : Option FieldType}
    (hy : plainName y.cls = true) (hw : ws = Cond.code y cc maxL ret :: ws')
    (body : ∀ p e s m args below meth c s₁, BodyLoose p l y (headSpec ws rm) cc maxL ret e s m args below meth c s₁ → c.maxLocals = maxL → (∀ x ∈ c.exceptionTable.toList, False) → Pc args s →
      W p l e (headSpec ws rm).room s m args below meth c s.heap [] 0 0 (vx_MQ below Qc XC args s mc ms free) (entryFrame m args maxL)) : vx_Met l y ws rm Pc Qc XC mc ms free := by
  refine MetFree.of_bodyS (code := cc) (maxLocals := maxL) (ret := ret) hy ?_ ?_
  · intro args s m h hn
    obtain ⟨meth, c, h1, h2, h3, h4, h5, h6, -, -⟩ := Cond.code_spec hn (atoms_spec (ws := ws) h _ (by rw [hw]; exact List.mem_cons_self))
    exact ⟨meth, c, h1, h2, h3, h4, h5, h6⟩
  · intro p e s m args below meth c s₁ B hml hP _
    have hh0 : s₁.heap = s.heap := by rw [B.state]; rfl
    have ht : ∀ x ∈ c.exceptionTable.toList, False := by
      obtain ⟨meth9, c9, h1, h2, -, -, -, -, h7, -⟩ := Cond.code_spec B.named (atoms_spec (ws := ws) B.pre _ (by rw [hw]; exact List.mem_cons_self))
      cases Option.some.inj (h1.symm.trans B.method)
      cases Option.some.inj (h2.symm.trans (Stand.of_body B).code)
      intro x hx
      rw [Array.isEmpty_iff.mp h7] at hx
      cases hx
    obtain ⟨t, a1, o, b1, b2, b3⟩ := body p e s m args below meth c s₁ B hml ht hP s₁ hh0 (Stand.of_body B)
    exact ⟨t, o, a1, b1, b2, b3⟩
/-- the table of a body with handlers -/
theorem vx_table {p : Program} {x y : MethodName} {S : Spec} {cc bytes : ByteArray} {maxL maxL' : Nat} {ret ret' : Option FieldType} {e : Env} {s s₁ : State} {m : MethodId} {args : Array Value} {below : List Frame} {meth : Method} {c : Code} {hh : List (Nat × Nat × Nat × Nat)}
    (B : BodyLoose p l y S cc maxL ret e s m args below meth c s₁) (h : (Cond.codeWith y bytes maxL' ret' hh).before args s = true) : c.exceptionTable.toList = tableOf hh := by
  obtain ⟨m9, meth9, c9, hn9, h1, h2, -, -, h6, -⟩ := Cond.codeWith_spec h
  cases Option.some.inj (hn9.symm.trans B.named)
  cases Option.some.inj (h1.symm.trans B.method)
  cases Option.some.inj (h2.symm.trans (Stand.of_body B).code)
  rw [← h6, table_eq]
end Bodies
end VXA
/-! ===== END ===== -/
/-! ===== BEGIN a static call of a method with an exception table ===== -/
section VXS
variable {p : Program} {l : Launch} {e : Env} {R : Room} {s : State} {m : MethodId} {args : Array Value} {below : List Frame} {meth : Method} {c : Code} {T : State} {H : Heap} {locs : List Loc} {cells slots : Nat}
abbrev vx_CSW (R : Room) (s : State) (args : Array Value) (own : String) (index : Nat) (y : MethodName) (bytes : ByteArray) (maxL : Nat) (ret : Option FieldType) (hh : List (Nat × Nat × Nat × Nat)) (ws : List Cond) (rm : Room) (mc ms n : Nat) : Prop :=
  (rm.cells = mc ∧ rm.slots = ms ∧ rm.frames + 1 ≤ R.frames ∧ 8 + (maxL + 11) + rm.locals ≤ R.locals ∧ (∀ w ∈ ws, ∀ (a' : Array Value) (U : State), s.WarmedH U.vm → w.before a' U = true) ∧ Cond.codeWith y bytes maxL ret hh ∈ ws) ∧
  (Cond.codeWith y bytes maxL ret hh).before args s = true ∧ (Cond.initialized y.cls).before args s = true ∧ (y.cls ≠ "java/lang/invoke/MethodHandle" ∧ y.cls ≠ "java/lang/invoke/VarHandle") ∧
  (∀ sig, parseMethodDescriptor y.desc = some sig → n = sig.parameters.length) ∧ (Cond.methodLink own index y).before args s = true ∧ (Cond.static y).before args s = true
theorem vx_cwSW {own : String} {index maxL mc ms : Nat} {y : MethodName} {bytes : ByteArray} {ret : Option FieldType} {hh : List (Nat × Nat × Nat × Nat)} {Ts ws ws' : List Cond} {rm : Room} (n : Nat) (ht : ∀ w ∈ Ts, w.before args s = true) (hT : GoodIn Ts (va_wsS own index y ws)) (hw : ws = Cond.codeWith y bytes maxL ret hh :: ws') (hrc : rm.cells = mc) (hrs : rm.slots = ms)
    (hd : y.cls ≠ "java/lang/invoke/MethodHandle" ∧ y.cls ≠ "java/lang/invoke/VarHandle" ∧ (parseMethodDescriptor y.desc).map (fun d => d.parameters.length) = some n) (hR : rm.frames + 1 ≤ R.frames ∧ 8 + (maxL + 11) + rm.locals ≤ R.locals) :
    vx_CSW R s args own index y bytes maxL ret hh ws rm mc ms n := by
  have ok : ∀ w ∈ va_wsS own index y ws, w.before args s = true := fun w h => ht w (hT w h).1
  have hG : GoodIn Ts ws := fun w h => hT w (by unfold va_wsS; exact List.mem_append_right _ h)
  have hc : Cond.codeWith y bytes maxL ret hh ∈ ws := by rw [hw]; exact List.mem_cons_self
  refine ⟨⟨hrc, hrs, hR.1, hR.2, pay_in ht hG, hc⟩, ht _ (hG _ hc).1, ok _ (by simp [va_wsS]), ⟨hd.1, hd.2.1⟩, fun sig h => ?_, ok _ (by simp [va_wsS]), ok _ (by simp [va_wsS])⟩
  have h2 := hd.2.2
  rw [h] at h2
  exact (Option.some.inj h2).symm
theorem vx_callSW (X : Stand p l e R s m args below meth c T locs cells slots) (hexec : p.tables.exec = Jvm.exec) {own : String} {index : Nat} {y : MethodName} {bytes : ByteArray} {maxL : Nat} {ret : Option FieldType} {hh : List (Nat × Nat × Nat × Nat)}
    (hown : s.vm.findClass own = some m.cls) (hlink : (Cond.methodLink own index y).before args s = true) (hstat : (Cond.static y).before args s = true) (hinit : (Cond.initialized y.cls).before args s = true)
    (hcode : (Cond.codeWith y bytes maxL ret hh).before args s = true) (hy : y.cls ≠ "java/lang/invoke/MethodHandle" ∧ y.cls ≠ "java/lang/invoke/VarHandle")
    {W9 : Nat} {Pre : Pt → Array Value → Prop} {Post : Pt → Array Value → Option Value → Pt → Prop} (hK : Back l R p e below s args y 3 W9 Pre Post)
    {g : JFrame} (hg : g.method = m) (hsize : g.locals.size = c.maxLocals) {argsL rest : List Value} (hlen : ∀ sig, parseMethodDescriptor y.desc = some sig → argsL.length = sig.parameters.length)
    (hstack : g.stack = argsL.reverse ++ rest) (hW : 2 * g.monitorRoom + (rest.map fun v => v.category).sum ≤ W9) (hdg : decode c.code g.pc = .ok (.invokestatic index, 3))
    (hpre : ∀ vm₁, s.WarmedH vm₁ → Pre ⟨T.setVm vm₁, locs, cells, slots⟩ argsL.toArray) :
    ∃ (v : Option Value) (vm₁ : Vm) (B : Pt), s.WarmedH vm₁ ∧ Stand p l e R s m args below meth c B.U B.locs B.cells B.slots ∧ Post ⟨T.setVm vm₁, locs, cells, slots⟩ argsL.toArray v B ∧
      ∀ target, Steps p.tables e below (B.U.setTop { g with pc := g.pc + 3, stack := v.toList ++ rest }) target → Steps p.tables e below (T.setTop g) target := by
  obtain ⟨mk, methM, cM, hnamed, hmethM, -, -, -, -, -, -, hsigM⟩ := Cond.codeWith_spec hcode
  have hstatic : methM.isStatic = true := Cond.static_spec hnamed hmethM hstat
  obtain ⟨kP, hkP, -⟩ := className_of_methodNamed hnamed
  have hinitP : kP.init = .initialized := Cond.initialized_spec (findClass_of_methodNamed hnamed) hkP hinit
  obtain ⟨vm₁, X₁, hstep₁⟩ := X.invokestatic hexec hown hlink hnamed hmethM hstatic hkP hinitP hy (g := g) hg (argsL := argsL) (rest := rest) (hlen _ hsigM) hstack hdg
  obtain ⟨v, B, X', hpost, hsteps⟩ := hK m meth c ⟨T.setVm vm₁, locs, cells, slots⟩ { g with stack := rest } (.invokestatic index) mk argsL.toArray X₁ hg hsize hdg hW (X₁.named hnamed) (hpre vm₁ X₁.warmed)
  exact ⟨v, vm₁, B, X₁.warmed, X', hpost, fun target h => hstep₁ _ fun acts => by rw [doInvoke_state]; exact hsteps.trans h⟩
theorem vx_runSW {y : MethodName} {bytes cc : ByteArray} {maxL nL mc ms n index : Nat} {ret : Option FieldType} {hh : List (Nat × Nat × Nat × Nat)} {ws : List Cond} {rm : Room} {Pc : Array Value → State → Prop} {Qc : Array Value → State → Outcome → State → Prop} {free : Addr → Prop} {Ts : List Cond} {own : String} {As rest : List Value} {g : JFrame}
    (S : CallFix p m c cc nL s args Ts own) (hM : Met l y ws rm Pc Qc mc ms free) (cw : vx_CSW R s args own index y bytes maxL ret hh ws rm mc ms n) (hp : PreS s H Pc As)
    (hg : g.method = m) (hn : As.length = n) (hsize : g.locals.size = nL) (hstack : g.stack = As.reverse ++ rest) (hW : 2 * g.monitorRoom + (rest.map fun v => v.category).sum ≤ 8) (hdg : decode cc g.pc = .ok (.invokestatic index, 3)) (hf : cells + mc ≤ R.cells ∧ slots + ms ≤ R.slots) :
    va_Run p l e R s m args below meth c H locs cells slots mc ms g rest (Qc As.toArray) (free) := by
  obtain ⟨⟨hrc, hrs, hfr, hlo, hws, hcw⟩, hcode, hini, hy, hlen, hl, hstt⟩ := cw
  have hK : Back l R p e below s args y 3 8 (PreOf R mc ms Pc) (PostOf Qc mc ms free) := va_backW (hh := hh) (bytes := bytes) (maxL := maxL) (ret := ret) hM hp.1 hrc hrs hfr hlo hws hcw (fun a' U hW => word_at hW (Or.inl (by first | rfl | simp [Cond.onTables, Cond.keeps, Cond.steady])) hini)
  obtain ⟨hx, hb, hml, ho, -⟩ := S
  intro T hT X
  obtain ⟨v, vm₁, ⟨U', l2, c2, s2⟩, hW₁, X', ⟨g', mk, t, L, e1, e2, hq, h1, hL, h2, h3⟩, st⟩ := vx_callSW X hx (hh := hh) (bytes := bytes) (maxL := maxL) (ret := ret) ho hl hstt hini hcode hy hK hg (hsize.trans hml.symm) (argsL := As) (rest := rest) (fun sig h => hn.trans (hlen sig h)) hstack hW (by rw [hb]; exact hdg)
    (fun vm₁ hW₁ => ⟨hf.1, hf.2, hp.2 (T.setVm vm₁) hT hW₁⟩)
  dsimp only [Pt.U, Pt.locs, Pt.cells, Pt.slots] at X' e1 e2 h1 h2 h3 st
  subst h1; subst h2; subst h3
  exact ⟨v, (T.setVm vm₁).calling g' mk As.toArray, t, U', L, hT, X', hL, e1, e2, hq, st⟩
/-- not caught here, past rows that name other classes: it goes on to the caller -/
theorem vx_outP {p : Program} {l : Launch} {e : Env} {R : Room} {s : State} {m : MethodId} {args : Array Value} {below : List Frame} {meth : Method} {c : Code} {H : Heap} {locs : List Loc} {cells slots : Nat} {free : Addr → Prop} {ls : Array Slot} {rest : List Value} {Qc : Array Value → State → Outcome → State → Prop} {XC : String → State → State → Prop}
    {pc : Nat} {own E : String} {ce : Cell} {q : Addr} {mc ms : Nat} (hown : s.vm.findClass own = some m.cls) (hlocks : meth.locks = false)
    (hpass : ∀ z ∈ c.exceptionTable.toList, covers z pc = false ∨ (z.catchType ≠ 0 ∧ ∃ nm : String, (Cond.classLink own z.catchType nm).before args s = true ∧ va_Nc E nm s)) (hcell : H[q]? = some ce) (hv : ce.vm = .none) (hcl : s.vm.findClass E = some ce.cls)
    (hx : ∀ t : State, t.heap = H → s.vm.Alike t.vm → XC E s t) (hf : ∀ z ∈ locs, free z.base) (hc : cells ≤ mc) (hs : slots ≤ ms) :
    vx_W p l e R s m args below meth c H locs cells slots (vx_MQ below Qc XC args s mc ms free) (F0 m pc ls rest) q := by
  intro T hT X
  have hpl : e.platform.magicAccessors = ({} : Platform).magicAccessors := by rw [X.admits.platform]
  obtain ⟨vm', hW', X', st⟩ := X.outThrough hlocks q (g := F0 m pc ls rest) rfl rfl rfl (cell := ce) (by rw [hT]; exact hcell) (by rw [hv]; rfl)
    (by obtain ⟨k9, h9, -⟩ := Vm.findClass_spec hcl; exact ⟨k9, h9⟩) (fun z hz => by
      rcases hpass z hz with h | ⟨hz0, nm, hl1, hn1⟩
      · exact Or.inl h
      · obtain ⟨c6, hc6, hcl6⟩ := Cond.classLink_spec hown hl1 e.platform hpl
        obtain ⟨a8, b8, h1, h2, h3⟩ := hn1
        cases Option.some.inj (h1.symm.trans hcl)
        cases Option.some.inj (h2.symm.trans hc6)
        exact Or.inr ⟨hz0, _, hcl6, h3⟩)
  obtain ⟨g₀, hfr⟩ := X'.frames_eq
  have hcell9 : ((T.setVm vm').setFrames (.throwing q :: below)).heap[q]? = some ce := by
    show T.heap[q]? = some ce
    rw [hT]; exact hcell
  have hend : Ended ((T.setVm vm').setFrames (.throwing q :: below)) below (.threw q) := State.frames_setFrames _ (State.cur_lt_of_frames hfr)
  refine ⟨(T.setVm vm').setFrames (.throwing q :: below), ?_, .threw q, X'.here.running, hend, Or.inr ⟨q, rfl, E, ce, locs, hx _ hT (X'.ends _).1.alike, hcell9, hv, hcl, (X'.ends _).1, (X'.ends _).2.mono hc hs, hf⟩⟩
  rw [X.pushThrowing_eq]
  exact st
/-- a thing of a world lies in the heap -/
theorem vx_lt {D : va_G} {cl : List vw_C} {ws : va_W} {H1 : Heap} (h : va_P D cl ws H1) {k : Nat} {q : Nat × va_E} (hk : ws[k]? = some q) : q.1 < H1.size := (h k q hk).lt
end VXS
/-! ===== END ===== -/
/-! ===== BEGIN methods with a table of their own: called by a name, returning or throwing ===== -/
section VXH
/-! vx_backW, vx_callVX, vx_callSX, vx_callVW, vx_runVW, vx_runVX, vx_runSX, vx_ofWH follow the same proofs as their sisters above (Free/Laws.lean, Shelf42/LK1.lean); vx_outP calls Shelf42/NT130.lean (outThrough). -/
section
variable {l : Launch} {R : Room} {p : Program} {e : Env} {below : List Frame} {s : State} {sargs : Array Value} {y : MethodName} {len W9 : Nat}
theorem vx_backW {ws : List Cond} {rm : Room} {Pc : Array Value → State → Prop} {Qc : Array Value → State → Outcome → State → Prop} {XC : String → State → State → Prop} {mc ms : Nat} {free : Addr → Prop} {bytes : ByteArray} {maxL : Nat} {ret : Option FieldType} {hh : List (Nat × Nat × Nat × Nat)}
    (hM : vx_Met l y ws rm Pc Qc XC mc ms free) (hblind : FrameBlind Pc) (hrc : rm.cells = mc) (hrs : rm.slots = ms)
    (hframes : rm.frames + 1 ≤ R.frames) (hlocals : W9 + (maxL + 11) + rm.locals ≤ R.locals)
    (hws : ∀ w ∈ ws, ∀ a' U, s.WarmedH U.vm → w.before a' U = true) (hcode : Cond.codeWith y bytes maxL ret hh ∈ ws) (hinit : ∀ a' U, s.WarmedH U.vm → (Cond.initialized y.cls).before a' U = true) :
    vx_Back l R p e below s sargs y len W9 (PreOf R mc ms Pc) (PostOf Qc mc ms free) (vx_Post XC mc ms free) := by
  intro m meth c A g ig mk a X hg hsize hdg hW hn hp
  have h1 : (headSpec ws rm).pre.before a A.U = true := atoms_intro fun w hw => hws w hw _ _ X.warmed
  have h2 : (Cond.codeWith y bytes maxL ret hh).before a A.U = true := hws _ hcode _ _ X.warmed
  have h3 : (Cond.initialized y.cls).before a A.U = true := hinit _ _ X.warmed
  have h4 : A.cells + (headSpec ws rm).room.cells ≤ R.cells := by rw [show (headSpec ws rm).room.cells = mc from hrc]; exact hp.1
  have h5 : A.slots + (headSpec ws rm).room.slots ≤ R.slots := by rw [show (headSpec ws rm).room.slots = ms from hrs]; exact hp.2.1
  have hPc : Pc a (A.U.calling g mk a) := hblind _ _ _ _ hp.2.2
  obtain ⟨U, Ls, c0, s0⟩ := A
  dsimp only [Pt.U, Pt.locs, Pt.cells, Pt.slots] at h1 h2 h3 h4 h5 X hn hPc ⊢
  obtain ⟨m9, methY, cY, hn9, hmY, hcY, -, hlY, -⟩ := Cond.codeWith_spec h2
  cases Option.some.inj (hn9.symm.trans hn)
  obtain ⟨kY, hkY, -⟩ := className_of_methodNamed hn
  have hinitY : kY.init = .initialized := Cond.initialized_spec (findClass_of_methodNamed hn) hkY h3
  have h : At U g.method c below := by rw [hg]; exact X.here
  have hlocals9 : W9 + (maxL + 11) + (headSpec ws rm).room.locals ≤ R.locals := hlocals
  have happ : (headSpec ws rm).appliesLoose y e.platform (U.calling g mk a) = true :=
    Spec.appliesLoose_calling (g := g) h hdg hn hkY hinitY
      (X.room_calling (g := g) (R' := (headSpec ws rm).room) hsize hmY hcY hframes (by rw [hlY]; omega) h4 h5) h1
  obtain ⟨mid, hmid⟩ := h.above
  have hfr : (U.setTop g).frames = (.java g :: mid) ++ below := by rw [State.frames_setTop' g h.top, hmid]; rfl
  obtain ⟨o, s₂, hsteps, -, hend, hq⟩ := Steps.callFree hM p X.admits X.cas X.clock (acts := []) hfr happ hPc trivial
  have hq' : vx_Q Qc XC mc ms free a (U.calling g mk a) o s₂ := hq
  rw [State.frames_setTop' g h.top] at hend
  obtain ⟨g₀, hg0⟩ := Option.isSome_iff_exists.mp h.top
  obtain ⟨r, hr⟩ := State.topJava?_eq_some.mp hg0
  have hr' : (({ U with heap := s₂.heap, slotsUsed := s₂.slotsUsed } : State).setVm s₂.vm).frames = .java g₀ :: r := hr
  rcases hq' with ⟨hqc, L, hfe, hL⟩ | ⟨q, rfl, E, ce, L, hx, hce, hcv, hcl, hW₂, hsm, hL⟩
  · obtain ⟨⟨v, rfl⟩, hW₂, e2, q2, q3, q4, q5, q6⟩ := id hfe
    have e3 : s₂ = ({ (U.calling g mk a).setFrames s₂.frames with heap := s₂.heap, slotsUsed := s₂.slotsUsed } : State).setVm s₂.vm := by
      have : s₂ = ({ s₂ with vm := (U.calling g mk a).vm } : State).setVm s₂.vm := rfl
      rw [e2] at this
      exact this
    obtain ⟨c₂, i₂, len₂, hc₂, hd₂, hf₂⟩ := hend
    have hW' : U.WarmedH s₂.vm := hW₂
    have hcc : c₂ = c := by
      have h1 : s₂.code? g.method = U.code? g.method := by
        rw [State.code?_eq, State.code?_eq, hW'.alike.method?]
      exact Option.some.inj (hc₂.symm.trans (h1.trans h.code))
    subst hcc
    have hlen : len₂ = len := by rw [hdg] at hd₂; cases hd₂; rfl
    subst hlen
    have hs₂ : s₂ = (({ U with heap := s₂.heap, slotsUsed := s₂.slotsUsed } : State).setVm s₂.vm).setTop { g with pc := g.pc + len₂, stack := v.toList ++ g.stack } := by
      refine e3.trans ?_
      rw [hf₂, State.calling_eq h.top, State.setFrames_setFrames, State.setTop_of_frames _ hr', hr]
      rfl
    have hsame : U.sameButNew ({ U with heap := s₂.heap, slotsUsed := s₂.slotsUsed } : State) L mc ms := by
      refine ⟨?_, q2, q3, q4, q5, q6⟩
      obtain ⟨t, ht, -⟩ := State.frames_cons hr
      show ({ U with heap := s₂.heap, slotsUsed := s₂.slotsUsed } : State) = { U.setFrames U.frames with heap := s₂.heap, slotsUsed := s₂.slotsUsed }
      rw [State.setFrames_self ht]
    subst hg
    refine Or.inl ⟨v, ⟨(({ U with heap := s₂.heap, slotsUsed := s₂.slotsUsed } : State).setVm s₂.vm), Ls ++ L, c0 + mc, s0 + ms⟩,
      ⟨X.admits, X.cas, X.clock, X.frames, X.room, X.hears, X.method, X.code, (X.here.setHeapUsed s₂.heap s₂.slotsUsed).setVm hW'.alike, X.tail, State.WarmedH.trans X.warmed hW', X.limits, X.bytes, X.same.trans (hsame.setVm s.vm)⟩,
      ⟨g, mk, s₂, L, rfl, rfl, hqc, rfl, hL, rfl, rfl⟩, ?_⟩
    show Steps p.tables e below _ ((({ U with heap := s₂.heap, slotsUsed := s₂.slotsUsed } : State).setVm s₂.vm).setTop { g with pc := g.pc + len₂, stack := v.toList ++ g.stack })
    rw [← hs₂]
    exact hsteps
  · obtain ⟨e2, q2, q3, q4, q5, q6⟩ := id hsm
    have e3 : s₂ = ({ (U.calling g mk a).setFrames s₂.frames with heap := s₂.heap, slotsUsed := s₂.slotsUsed } : State).setVm s₂.vm := by
      have : s₂ = ({ s₂ with vm := (U.calling g mk a).vm } : State).setVm s₂.vm := rfl
      rw [e2] at this
      exact this
    have hf₂ : s₂.frames = .throwing q :: .java g :: U.frames.tail := hend
    have hW' : U.WarmedH s₂.vm := hW₂
    have hs₂ : s₂ = ((({ U with heap := s₂.heap, slotsUsed := s₂.slotsUsed } : State).setVm s₂.vm).setTop g).pushFrame (.throwing q) := by
      refine e3.trans ?_
      rw [hf₂, State.calling_eq h.top, State.setFrames_setFrames, State.pushFrame, State.frames_setTop _ hr', State.setTop_of_frames _ hr', State.setFrames_setFrames, hr]
      rfl
    have hsame : U.sameButNew ({ U with heap := s₂.heap, slotsUsed := s₂.slotsUsed } : State) L mc ms := by
      refine ⟨?_, q2, q3, q4, q5, q6⟩
      obtain ⟨t, ht, -⟩ := State.frames_cons hr
      show ({ U with heap := s₂.heap, slotsUsed := s₂.slotsUsed } : State) = { U.setFrames U.frames with heap := s₂.heap, slotsUsed := s₂.slotsUsed }
      rw [State.setFrames_self ht]
    subst hg
    refine Or.inr ⟨q, ⟨(({ U with heap := s₂.heap, slotsUsed := s₂.slotsUsed } : State).setVm s₂.vm), Ls ++ L, c0 + mc, s0 + ms⟩,
      ⟨X.admits, X.cas, X.clock, X.frames, X.room, X.hears, X.method, X.code, (X.here.setHeapUsed s₂.heap s₂.slotsUsed).setVm hW'.alike, X.tail, State.WarmedH.trans X.warmed hW', X.limits, X.bytes, X.same.trans (hsame.setVm s.vm)⟩,
      ⟨g, mk, s₂, L, E, ce, rfl, rfl, hx, hce, hcv, hcl, rfl, hL, rfl, rfl⟩, ?_⟩
    show Steps p.tables e below _ (((({ U with heap := s₂.heap, slotsUsed := s₂.slotsUsed } : State).setVm s₂.vm).setTop g).pushFrame (.throwing q))
    rw [← hs₂]
    exact hsteps
end
variable {p : Program} {l : Launch} {e : Env} {R : Room} {s : State} {m : MethodId} {args : Array Value} {below : List Frame} {meth : Method} {c : Code} {T : State} {H : Heap} {locs : List Loc} {cells slots : Nat}
theorem vx_callVX (X : Stand p l e R s m args below meth c T locs cells slots) (hexec : p.tables.exec = Jvm.exec) {own C : String} {index : Nat} {y : MethodName} {bytes : ByteArray} {maxL : Nat} {ret : Option FieldType} {hh : List (Nat × Nat × Nat × Nat)}
    (hown : s.vm.findClass own = some m.cls) (hlink : (Cond.methodLink own index y).before args s = true) (hinst : (Cond.instanceMethod y).before args s = true) (hsel : (Cond.selects C y y).before args s = true)
    (hcode : (Cond.codeWith y bytes maxL ret hh).before args s = true) (hy : y.cls ≠ "java/lang/invoke/MethodHandle" ∧ y.cls ≠ "java/lang/invoke/VarHandle")
    {W9 : Nat} {Pre : Pt → Array Value → Prop} {Post : Pt → Array Value → Option Value → Pt → Prop} {PostX : Pt → Array Value → Addr → Pt → Prop} (hK : vx_Back l R p e below s args y 3 W9 Pre Post PostX)
    {b : Addr} {cellB : Cell} (hcell : T.heap[b]? = some cellB) (hobj : cellB.vm.isStatics = false) (hcls : s.vm.findClass C = some cellB.cls)
    {g : JFrame} (hg : g.method = m) (hsize : g.locals.size = c.maxLocals) {argsL rest : List Value} (hlen : ∀ sig, parseMethodDescriptor y.desc = some sig → argsL.length = sig.parameters.length)
    (hstack : g.stack = argsL.reverse ++ .ref b :: rest) (hW : 2 * g.monitorRoom + (rest.map fun v => v.category).sum ≤ W9) (hdg : decode c.code g.pc = .ok (.invokevirtual index, 3))
    (hpre : ∀ vm₁, s.WarmedH vm₁ → Pre ⟨T.setVm vm₁, locs, cells, slots⟩ (Value.ref b :: argsL).toArray) :
    (∃ (v : Option Value) (vm₁ : Vm) (B : Pt), s.WarmedH vm₁ ∧ Stand p l e R s m args below meth c B.U B.locs B.cells B.slots ∧ Post ⟨T.setVm vm₁, locs, cells, slots⟩ (Value.ref b :: argsL).toArray v B ∧
      ∀ target, Steps p.tables e below (B.U.setTop { g with pc := g.pc + 3, stack := v.toList ++ rest }) target → Steps p.tables e below (T.setTop g) target) ∨
    (∃ (q : Addr) (vm₁ : Vm) (B : Pt), s.WarmedH vm₁ ∧ Stand p l e R s m args below meth c B.U B.locs B.cells B.slots ∧ PostX ⟨T.setVm vm₁, locs, cells, slots⟩ (Value.ref b :: argsL).toArray q B ∧
      Steps p.tables e below (T.setTop g) ((B.U.setTop { g with stack := rest }).pushFrame (.throwing q))) := by
  obtain ⟨mk, methM, hnamed, hmethM, hstM, habM⟩ := Cond.instanceMethod_spec hinst
  obtain ⟨m8, methM', cM, hn8, hmethM', -, -, -, -, -, -, hsigM⟩ := Cond.codeWith_spec hcode
  cases Option.some.inj (hn8.symm.trans hnamed)
  cases hmethM.symm.trans hmethM'
  obtain ⟨c2, r2, m2, q1, q2, q3, q4, kP, hkP, hkPi⟩ := Cond.selects_spec hsel
  cases hcls.symm.trans q1
  cases (State.methodFound?_of_named hnamed hy).symm.trans q2
  cases hnamed.symm.trans q3
  have hselP : selectMethod e.platform s.vm cellB.cls mk = .method mk := by rw [Launch.admits_selectMethod X.admits]; exact q4
  obtain ⟨vm₁, X₁, hstep₁⟩ := X.invokevirtual hexec hown hlink hnamed hmethM hstM hkP hkPi hy (a := b) (cell := cellB) hcell
    (fun z h => by rw [h] at hobj; cases hobj) hselP hmethM habM hkP hkPi (g := g) hg (argsL := argsL) (rest := rest) (hlen _ hsigM) hstack hdg
  rcases hK m meth c ⟨T.setVm vm₁, locs, cells, slots⟩ { g with stack := rest } (.invokevirtual index) mk (Value.ref b :: argsL).toArray X₁ hg hsize hdg hW (X₁.named hnamed) (hpre vm₁ X₁.warmed) with ⟨v, B, X', hpost, hsteps⟩ | ⟨q, B, X', hpost, hsteps⟩
  · exact Or.inl ⟨v, vm₁, B, X₁.warmed, X', hpost, fun target h => hstep₁ _ fun acts => by rw [doInvoke_state]; exact hsteps.trans h⟩
  · exact Or.inr ⟨q, vm₁, B, X₁.warmed, X', hpost, hstep₁ _ fun acts => by rw [doInvoke_state]; exact hsteps⟩
theorem vx_callSX (X : Stand p l e R s m args below meth c T locs cells slots) (hexec : p.tables.exec = Jvm.exec) {own : String} {index : Nat} {y : MethodName} {bytes : ByteArray} {maxL : Nat} {ret : Option FieldType} {hh : List (Nat × Nat × Nat × Nat)}
    (hown : s.vm.findClass own = some m.cls) (hlink : (Cond.methodLink own index y).before args s = true) (hstat : (Cond.static y).before args s = true) (hinit : (Cond.initialized y.cls).before args s = true)
    (hcode : (Cond.codeWith y bytes maxL ret hh).before args s = true) (hy : y.cls ≠ "java/lang/invoke/MethodHandle" ∧ y.cls ≠ "java/lang/invoke/VarHandle")
    {W9 : Nat} {Pre : Pt → Array Value → Prop} {Post : Pt → Array Value → Option Value → Pt → Prop} {PostX : Pt → Array Value → Addr → Pt → Prop} (hK : vx_Back l R p e below s args y 3 W9 Pre Post PostX)
    {g : JFrame} (hg : g.method = m) (hsize : g.locals.size = c.maxLocals) {argsL rest : List Value} (hlen : ∀ sig, parseMethodDescriptor y.desc = some sig → argsL.length = sig.parameters.length)
    (hstack : g.stack = argsL.reverse ++ rest) (hW : 2 * g.monitorRoom + (rest.map fun v => v.category).sum ≤ W9) (hdg : decode c.code g.pc = .ok (.invokestatic index, 3))
    (hpre : ∀ vm₁, s.WarmedH vm₁ → Pre ⟨T.setVm vm₁, locs, cells, slots⟩ argsL.toArray) :
    (∃ (v : Option Value) (vm₁ : Vm) (B : Pt), s.WarmedH vm₁ ∧ Stand p l e R s m args below meth c B.U B.locs B.cells B.slots ∧ Post ⟨T.setVm vm₁, locs, cells, slots⟩ argsL.toArray v B ∧
      ∀ target, Steps p.tables e below (B.U.setTop { g with pc := g.pc + 3, stack := v.toList ++ rest }) target → Steps p.tables e below (T.setTop g) target) ∨
    (∃ (q : Addr) (vm₁ : Vm) (B : Pt), s.WarmedH vm₁ ∧ Stand p l e R s m args below meth c B.U B.locs B.cells B.slots ∧ PostX ⟨T.setVm vm₁, locs, cells, slots⟩ argsL.toArray q B ∧
      Steps p.tables e below (T.setTop g) ((B.U.setTop { g with stack := rest }).pushFrame (.throwing q))) := by
  obtain ⟨mk, methM, cM, hnamed, hmethM, -, -, -, -, -, -, hsigM⟩ := Cond.codeWith_spec hcode
  have hstatic : methM.isStatic = true := Cond.static_spec hnamed hmethM hstat
  obtain ⟨kP, hkP, -⟩ := className_of_methodNamed hnamed
  have hinitP : kP.init = .initialized := Cond.initialized_spec (findClass_of_methodNamed hnamed) hkP hinit
  obtain ⟨vm₁, X₁, hstep₁⟩ := X.invokestatic hexec hown hlink hnamed hmethM hstatic hkP hinitP hy (g := g) hg (argsL := argsL) (rest := rest) (hlen _ hsigM) hstack hdg
  rcases hK m meth c ⟨T.setVm vm₁, locs, cells, slots⟩ { g with stack := rest } (.invokestatic index) mk argsL.toArray X₁ hg hsize hdg hW (X₁.named hnamed) (hpre vm₁ X₁.warmed) with ⟨v, B, X', hpost, hsteps⟩ | ⟨q, B, X', hpost, hsteps⟩
  · exact Or.inl ⟨v, vm₁, B, X₁.warmed, X', hpost, fun target h => hstep₁ _ fun acts => by rw [doInvoke_state]; exact hsteps.trans h⟩
  · exact Or.inr ⟨q, vm₁, B, X₁.warmed, X', hpost, hstep₁ _ fun acts => by rw [doInvoke_state]; exact hsteps⟩
theorem vx_callVW (X : Stand p l e R s m args below meth c T locs cells slots) (hexec : p.tables.exec = Jvm.exec) {own C : String} {index : Nat} {y : MethodName} {bytes : ByteArray} {maxL : Nat} {ret : Option FieldType} {hh : List (Nat × Nat × Nat × Nat)}
    (hown : s.vm.findClass own = some m.cls) (hlink : (Cond.methodLink own index y).before args s = true) (hinst : (Cond.instanceMethod y).before args s = true) (hsel : (Cond.selects C y y).before args s = true)
    (hcode : (Cond.codeWith y bytes maxL ret hh).before args s = true) (hy : y.cls ≠ "java/lang/invoke/MethodHandle" ∧ y.cls ≠ "java/lang/invoke/VarHandle")
    {W9 : Nat} {Pre : Pt → Array Value → Prop} {Post : Pt → Array Value → Option Value → Pt → Prop} (hK : Back l R p e below s args y 3 W9 Pre Post)
    {b : Addr} {cellB : Cell} (hcell : T.heap[b]? = some cellB) (hobj : cellB.vm.isStatics = false) (hcls : s.vm.findClass C = some cellB.cls)
    {g : JFrame} (hg : g.method = m) (hsize : g.locals.size = c.maxLocals) {argsL rest : List Value} (hlen : ∀ sig, parseMethodDescriptor y.desc = some sig → argsL.length = sig.parameters.length)
    (hstack : g.stack = argsL.reverse ++ .ref b :: rest) (hW : 2 * g.monitorRoom + (rest.map fun v => v.category).sum ≤ W9) (hdg : decode c.code g.pc = .ok (.invokevirtual index, 3))
    (hpre : ∀ vm₁, s.WarmedH vm₁ → Pre ⟨T.setVm vm₁, locs, cells, slots⟩ (Value.ref b :: argsL).toArray) :
    ∃ (v : Option Value) (vm₁ : Vm) (B : Pt), s.WarmedH vm₁ ∧ Stand p l e R s m args below meth c B.U B.locs B.cells B.slots ∧ Post ⟨T.setVm vm₁, locs, cells, slots⟩ (Value.ref b :: argsL).toArray v B ∧
      ∀ target, Steps p.tables e below (B.U.setTop { g with pc := g.pc + 3, stack := v.toList ++ rest }) target → Steps p.tables e below (T.setTop g) target := by
  obtain ⟨mk, methM, hnamed, hmethM, hstM, habM⟩ := Cond.instanceMethod_spec hinst
  obtain ⟨m8, methM', cM, hn8, hmethM', -, -, -, -, -, -, hsigM⟩ := Cond.codeWith_spec hcode
  cases Option.some.inj (hn8.symm.trans hnamed)
  cases hmethM.symm.trans hmethM'
  obtain ⟨c2, r2, m2, q1, q2, q3, q4, kP, hkP, hkPi⟩ := Cond.selects_spec hsel
  cases hcls.symm.trans q1
  cases (State.methodFound?_of_named hnamed hy).symm.trans q2
  cases hnamed.symm.trans q3
  have hselP : selectMethod e.platform s.vm cellB.cls mk = .method mk := by rw [Launch.admits_selectMethod X.admits]; exact q4
  obtain ⟨vm₁, X₁, hstep₁⟩ := X.invokevirtual hexec hown hlink hnamed hmethM hstM hkP hkPi hy (a := b) (cell := cellB) hcell
    (fun z h => by rw [h] at hobj; cases hobj) hselP hmethM habM hkP hkPi (g := g) hg (argsL := argsL) (rest := rest) (hlen _ hsigM) hstack hdg
  obtain ⟨v, B, X', hpost, hsteps⟩ := hK m meth c ⟨T.setVm vm₁, locs, cells, slots⟩ { g with stack := rest } (.invokevirtual index) mk (Value.ref b :: argsL).toArray X₁ hg hsize hdg hW (X₁.named hnamed) (hpre vm₁ X₁.warmed)
  exact ⟨v, vm₁, B, X₁.warmed, X', hpost, fun target h => hstep₁ _ fun acts => by rw [doInvoke_state]; exact hsteps.trans h⟩
abbrev vx_CVW (R : Room) (s : State) (args : Array Value) (own C : String) (index : Nat) (y : MethodName) (bytes : ByteArray) (maxL : Nat) (ret : Option FieldType) (hh : List (Nat × Nat × Nat × Nat)) (ws : List Cond) (rm : Room) (mc ms n : Nat) : Prop :=
  (rm.cells = mc ∧ rm.slots = ms ∧ rm.frames + 1 ≤ R.frames ∧ 8 + (maxL + 11) + rm.locals ≤ R.locals ∧ (∀ w ∈ ws, ∀ (a' : Array Value) (U : State), s.WarmedH U.vm → w.before a' U = true) ∧ Cond.codeWith y bytes maxL ret hh ∈ ws) ∧
  (Cond.codeWith y bytes maxL ret hh).before args s = true ∧ (Cond.initialized y.cls).before args s = true ∧ (y.cls ≠ "java/lang/invoke/MethodHandle" ∧ y.cls ≠ "java/lang/invoke/VarHandle") ∧
  (∀ sig, parseMethodDescriptor y.desc = some sig → n = sig.parameters.length) ∧ (Cond.methodLink own index y).before args s = true ∧ (Cond.instanceMethod y).before args s = true ∧ (Cond.selects C y y).before args s = true
theorem vx_cwVW {own C : String} {index maxL mc ms : Nat} {y : MethodName} {bytes : ByteArray} {ret : Option FieldType} {hh : List (Nat × Nat × Nat × Nat)} {Ts ws ws' : List Cond} {rm : Room} (n : Nat) (ht : ∀ w ∈ Ts, w.before args s = true) (hT : GoodIn Ts (wsV own index C y ws)) (hw : ws = Cond.codeWith y bytes maxL ret hh :: ws') (hrc : rm.cells = mc) (hrs : rm.slots = ms)
    (hd : y.cls = C ∧ y.cls ≠ "java/lang/invoke/MethodHandle" ∧ y.cls ≠ "java/lang/invoke/VarHandle" ∧ (parseMethodDescriptor y.desc).map (fun d => d.parameters.length) = some n) (hR : rm.frames + 1 ≤ R.frames ∧ 8 + (maxL + 11) + rm.locals ≤ R.locals) :
    vx_CVW R s args own C index y bytes maxL ret hh ws rm mc ms n := by
  obtain ⟨hC, hd⟩ := hd
  subst hC
  have ok : ∀ w ∈ wsV own index y.cls y ws, w.before args s = true := fun w h => ht w (hT w h).1
  have hG : GoodIn Ts ws := fun w h => hT w (by unfold wsV; exact List.mem_append_right _ h)
  have hc : Cond.codeWith y bytes maxL ret hh ∈ ws := by rw [hw]; exact List.mem_cons_self
  refine ⟨⟨hrc, hrs, hR.1, hR.2, pay_in ht hG, hc⟩, ht _ (hG _ hc).1, ok _ (by simp [wsV]), ⟨hd.1, hd.2.1⟩, fun sig h => ?_, ok _ (by simp [wsV]), ok _ (by simp [wsV]), ok _ (by simp [wsV])⟩
  have h2 := hd.2.2
  rw [h] at h2
  exact (Option.some.inj h2).symm
theorem vx_runVW {y : MethodName} {bytes cc : ByteArray} {maxL nL mc ms n index : Nat} {ret : Option FieldType} {hh : List (Nat × Nat × Nat × Nat)} {ws : List Cond} {rm : Room} {Pc : Array Value → State → Prop} {Qc : Array Value → State → Outcome → State → Prop} {free : Addr → Prop} {Ts : List Cond} {own C : String} {b : Addr} {As rest : List Value} {g : JFrame}
    (S : CallFix p m c cc nL s args Ts own) (hM : Met l y ws rm Pc Qc mc ms free) (cw : vx_CVW R s args own C index y bytes maxL ret hh ws rm mc ms n) (hp : PreV s H C b Pc As)
    (hg : g.method = m) (hn : As.length = n) (hsize : g.locals.size = nL) (hstack : g.stack = As.reverse ++ .ref b :: rest) (hW : 2 * g.monitorRoom + (rest.map fun v => v.category).sum ≤ 8) (hdg : decode cc g.pc = .ok (.invokevirtual index, 3)) (hf : cells + mc ≤ R.cells ∧ slots + ms ≤ R.slots) :
    va_Run p l e R s m args below meth c H locs cells slots mc ms g rest (Qc (Value.ref b :: As).toArray) free := by
  obtain ⟨⟨hrc, hrs, hfr, hlo, hws, hcw⟩, hcode, hini, hy, hlen, hl, hin, hse⟩ := cw
  have hK : Back l R p e below s args y 3 8 (PreOf R mc ms Pc) (PostOf Qc mc ms free) := va_backW (hh := hh) (bytes := bytes) (maxL := maxL) (ret := ret) hM hp.1 hrc hrs hfr hlo hws hcw (fun a' U hW => word_at hW (Or.inl (by first | rfl | simp [Cond.onTables, Cond.keeps, Cond.steady])) hini)
  obtain ⟨hx, hb, hml, ho, -⟩ := S
  obtain ⟨-, ⟨cellB, hcB, hoB, hclB⟩, hPc⟩ := hp
  intro T hT X
  obtain ⟨v, vm₁, ⟨U', l2, c2, s2⟩, hW₁, X', ⟨g', mk, t, L, e1, e2, hq, h1, hL, h2, h3⟩, st⟩ := vx_callVW X hx (C := C) (hh := hh) (bytes := bytes) (maxL := maxL) (ret := ret) ho hl hin hse hcode hy hK (by rw [hT]; exact hcB) hoB hclB hg (hsize.trans hml.symm) (argsL := As) (rest := rest) (fun sig h => hn.trans (hlen sig h)) hstack hW (by rw [hb]; exact hdg)
    (fun vm₁ hW₁ => ⟨hf.1, hf.2, hPc (T.setVm vm₁) hT hW₁⟩)
  dsimp only [Pt.U, Pt.locs, Pt.cells, Pt.slots] at X' e1 e2 h1 h2 h3 st
  subst h1; subst h2; subst h3
  exact ⟨v, (T.setVm vm₁).calling g' mk (Value.ref b :: As).toArray, t, U', L, hT, X', hL, e1, e2, hq, st⟩
section
variable {y : MethodName} {bytes cc : ByteArray} {maxL nL mc ms n index : Nat} {ret : Option FieldType} {ws : List Cond} {rm : Room} {Pc : Array Value → State → Prop} {Qc : Array Value → State → Outcome → State → Prop} {XC : String → State → State → Prop} {free : Addr → Prop} {Ts : List Cond} {own C : String} {b : Addr} {As rest : List Value} {g : JFrame}
theorem vx_runVX {hh : List (Nat × Nat × Nat × Nat)} (S : CallFix p m c cc nL s args Ts own) (hM : vx_Met l y ws rm Pc Qc XC mc ms free) (cw : vx_CVW R s args own C index y bytes maxL ret hh ws rm mc ms n) (hp : PreV s H C b Pc As)
    (hg : g.method = m) (hn : As.length = n) (hsize : g.locals.size = nL) (hstack : g.stack = As.reverse ++ .ref b :: rest) (hW : 2 * g.monitorRoom + (rest.map fun v => v.category).sum ≤ 8) (hdg : decode cc g.pc = .ok (.invokevirtual index, 3)) (hf : cells + mc ≤ R.cells ∧ slots + ms ≤ R.slots) :
    vx_Run p l e R s m args below meth c H locs cells slots mc ms g rest (Qc (Value.ref b :: As).toArray) XC free := by
  obtain ⟨⟨hrc, hrs, hfr, hlo, hws, hcw⟩, hcode, hini, hy, hlen, hl, hin, hse⟩ := cw
  have hK : vx_Back l R p e below s args y 3 8 (PreOf R mc ms Pc) (PostOf Qc mc ms free) (vx_Post XC mc ms free) := vx_backW (hh := hh) (bytes := bytes) (maxL := maxL) (ret := ret) hM hp.1 hrc hrs hfr hlo hws hcw (fun a' U hW => word_at hW (Or.inl (by first | rfl | simp [Cond.onTables, Cond.keeps, Cond.steady])) hini)
  obtain ⟨hx, hb, hml, ho, -⟩ := S
  obtain ⟨-, ⟨cellB, hcB, hoB, hclB⟩, hPc⟩ := hp
  intro T hT X
  rcases vx_callVX X hx (C := C) (hh := hh) (bytes := bytes) (maxL := maxL) (ret := ret) ho hl hin hse hcode hy hK (by rw [hT]; exact hcB) hoB hclB hg (hsize.trans hml.symm) (argsL := As) (rest := rest) (fun sig h => hn.trans (hlen sig h)) hstack hW (by rw [hb]; exact hdg)
    (fun vm₁ hW₁ => ⟨hf.1, hf.2, hPc (T.setVm vm₁) hT hW₁⟩) with ⟨v, vm₁, ⟨U', l2, c2, s2⟩, hW₁, X', ⟨g', mk, t, L, e1, e2, hq, h1, hL, h2, h3⟩, st⟩ | ⟨q, vm₁, ⟨U', l2, c2, s2⟩, hW₁, X', ⟨g', mk, t, L, E, ce, e1, e2, hq, hce, hcv, hcl, h1, hL, h2, h3⟩, st⟩
  · dsimp only [Pt.U, Pt.locs, Pt.cells, Pt.slots] at X' e1 e2 h1 h2 h3 st
    subst h1; subst h2; subst h3
    exact Or.inl ⟨v, (T.setVm vm₁).calling g' mk (Value.ref b :: As).toArray, t, U', L, hT, X', hL, e1, e2, hq, st⟩
  · dsimp only [Pt.U, Pt.locs, Pt.cells, Pt.slots] at X' e1 e2 h1 h2 h3 st hcl
    subst h1; subst h2; subst h3
    exact Or.inr ⟨q, (T.setVm vm₁).calling g' mk (Value.ref b :: As).toArray, t, U', L, E, ce, hT, X', hL, e1, e2, hq, hce, hcv, vx_cls hW₁ hcl, st⟩
theorem vx_runSX {hh : List (Nat × Nat × Nat × Nat)} (S : CallFix p m c cc nL s args Ts own) (hM : vx_Met l y ws rm Pc Qc XC mc ms free) (cw : vx_CSW R s args own index y bytes maxL ret hh ws rm mc ms n) (hp : PreS s H Pc As)
    (hg : g.method = m) (hn : As.length = n) (hsize : g.locals.size = nL) (hstack : g.stack = As.reverse ++ rest) (hW : 2 * g.monitorRoom + (rest.map fun v => v.category).sum ≤ 8) (hdg : decode cc g.pc = .ok (.invokestatic index, 3)) (hf : cells + mc ≤ R.cells ∧ slots + ms ≤ R.slots) :
    vx_Run p l e R s m args below meth c H locs cells slots mc ms g rest (Qc As.toArray) XC free := by
  obtain ⟨⟨hrc, hrs, hfr, hlo, hws, hcw⟩, hcode, hini, hy, hlen, hl, hstt⟩ := cw
  have hK : vx_Back l R p e below s args y 3 8 (PreOf R mc ms Pc) (PostOf Qc mc ms free) (vx_Post XC mc ms free) := vx_backW (hh := hh) (bytes := bytes) (maxL := maxL) (ret := ret) hM hp.1 hrc hrs hfr hlo hws hcw (fun a' U hW => word_at hW (Or.inl (by first | rfl | simp [Cond.onTables, Cond.keeps, Cond.steady])) hini)
  obtain ⟨hx, hb, hml, ho, -⟩ := S
  intro T hT X
  rcases vx_callSX X hx (hh := hh) (bytes := bytes) (maxL := maxL) (ret := ret) ho hl hstt hini hcode hy hK hg (hsize.trans hml.symm) (argsL := As) (rest := rest) (fun sig h => hn.trans (hlen sig h)) hstack hW (by rw [hb]; exact hdg)
    (fun vm₁ hW₁ => ⟨hf.1, hf.2, hp.2 (T.setVm vm₁) hT hW₁⟩) with ⟨v, vm₁, ⟨U', l2, c2, s2⟩, hW₁, X', ⟨g', mk, t, L, e1, e2, hq, h1, hL, h2, h3⟩, st⟩ | ⟨q, vm₁, ⟨U', l2, c2, s2⟩, hW₁, X', ⟨g', mk, t, L, E, ce, e1, e2, hq, hce, hcv, hcl, h1, hL, h2, h3⟩, st⟩
  · dsimp only [Pt.U, Pt.locs, Pt.cells, Pt.slots] at X' e1 e2 h1 h2 h3 st
    subst h1; subst h2; subst h3
    exact Or.inl ⟨v, (T.setVm vm₁).calling g' mk As.toArray, t, U', L, hT, X', hL, e1, e2, hq, st⟩
  · dsimp only [Pt.U, Pt.locs, Pt.cells, Pt.slots] at X' e1 e2 h1 h2 h3 st hcl
    subst h1; subst h2; subst h3
    exact Or.inr ⟨q, (T.setVm vm₁).calling g' mk As.toArray, t, U', L, E, ce, hT, X', hL, e1, e2, hq, hce, hcv, vx_cls hW₁ hcl, st⟩
end
end VXH
theorem vx_ofWH {l : Launch} {y : MethodName} {ws ws' : List Cond} {rm : Room} {Pc : Array Value → State → Prop} {Qc : Array Value → State → Outcome → State → Prop} {XC : String → State → State → Prop} {mc ms : Nat} {free : Addr → Prop} {cc : ByteArray} {maxL : Nat} {ret : Option FieldType} {hh : List (Nat × Nat × Nat × Nat)}
    (hy : plainName y.cls = true) (hw : ws = Cond.codeWith y cc maxL ret hh :: ws')
    (body : ∀ p e s m args below meth c s₁, BodyLoose p l y (headSpec ws rm) cc maxL ret e s m args below meth c s₁ → c.maxLocals = maxL → Pc args s →
      W p l e (headSpec ws rm).room s m args below meth c s.heap [] 0 0 (vx_MQ below Qc XC args s mc ms free) (entryFrame m args maxL)) : vx_Met l y ws rm Pc Qc XC mc ms free := by
  refine MetFree.of_bodyS (code := cc) (maxLocals := maxL) (ret := ret) hy ?_ ?_
  · intro args s m h hn
    obtain ⟨m9, meth, c, hn9, h1, h2, h3, h4, -, h5, h6, -⟩ := Cond.codeWith_spec (atoms_spec (ws := ws) h _ (by rw [hw]; exact List.mem_cons_self))
    cases hn.symm.trans hn9
    exact ⟨meth, c, h1, h2, h3, h4, h5, h6⟩
  · intro p e s m args below meth c s₁ B hml hP _
    have hh0 : s₁.heap = s.heap := by rw [B.state]; rfl
    obtain ⟨t, a1, o, b1, b2, b3⟩ := body p e s m args below meth c s₁ B hml hP s₁ hh0 (Stand.of_body B)
    exact ⟨t, o, a1, b1, b2, b3⟩
/-! ===== END ===== -/
/-! ===== BEGIN what the machine throws by itself, no traces kept ===== -/
section VXM
set_option maxHeartbeats 1000000 in
/-- the machine throws cls with the message text, no traces kept: from its note over the frame g to 'throwing' over the same frame (follows the proofs of Stand.vmThrowsMessage, Shelf/KitTracedVmS.lean, and Stand.throwsMessageColdBareV, StandMessageColdV.lean, without the step out of the frame) -/
theorem vx_vmAt {p : Program} {l : Launch} {e : Env} {R : Room} {s : State} {m₀ : MethodId} {args : Array Value} {below : List Frame} {meth : Method} {c : Code} {W : State} {locs : List Loc} {cells slots : Nat}
    (X : Stand p l e R s m₀ args below meth c W locs cells slots) (hexec : p.tables.exec = Jvm.exec) (htr : e.platform.stackTraces = false) {cls : String} {names : List String} {text : String}
    (hcls : Bundle.fit cls = true) (hnames : ∀ n ∈ names, Bundle.fit n = true) (hsoe : (cls == "java/lang/StackOverflowError") = false) (hoom : (cls == "java/lang/OutOfMemoryError") = false)
    (h : ∀ a ∈ Bundle.messageArmAtoms cls names, a.before args s = true)
    (hlocs : ∀ x ∈ locs, ∀ cell, s.heap[x.base]? = some cell → cell.vm.isStatics = false)
    (htext : (text == notModelled) = false) (hlimit : ¬ (stringBytes (stringToUtf16 text)).size > e.platform.arrayLengthLimit) (hheap : ¬ (stringBytes (stringToUtf16 text)).size * componentBytes .byte > e.platform.maxHeapBytes)
    {g : JFrame} (hg : g.method = m₀) (hsize : g.locals.size = c.maxLocals)
    (hRframes : names.length + 4 < R.frames) (hRlocals : 2 * g.monitorRoom + (g.stack.map fun v => v.category).sum + 10240 ≤ R.locals) (hshort : 13 * names.length + 55 ≤ 10240)
    (hRcells : cells + 3 ≤ R.cells) (hRslots : slots + ((stringBytes (stringToUtf16 text)).size + 4 + 6) ≤ R.slots) (hlocks : meth.locks = false) :
    ∃ (S : State) (q : Addr) (ce : Cell), (∀ target, Steps p.tables e below ((S.setTop g).pushFrame (.throwing q)) target → Steps p.tables e below ((W.setTop g).pushFrame (.throwNew cls (some text) none)) target) ∧
      Stand p l e R s m₀ args below meth c S locs (cells + 3) (slots + ((stringBytes (stringToUtf16 text)).size + 4 + 6)) ∧ S.heap[q]? = some ce ∧ s.vm.findClass cls = some ce.cls ∧ ce.vm = .none := by
  have howns : e.platform.frameOwnsMonitors = true := by rw [X.admits.platform]
  have hfin : e.platform.finalization = false := by rw [X.admits.platform]
  have hpl : e.platform.magicAccessors = ({} : Platform).magicAccessors := by rw [X.admits.platform]
  have a : ∀ x, x ∈ Bundle.messageArmAtoms cls names → x.holds args s none s [] = true := fun x hx => h x hx
  obtain ⟨T, Z0, L, -, Y⟩ := ThrowableC.of_atoms (args := args) howns hfin hpl (fun x hx => h x (by simp [Bundle.messageArmAtoms, hx]))
  obtain ⟨Z, M, LZ, LM, hnZ⟩ := Init0T.ofS_atoms (args := args) hpl L Y (fun x hx => h x (by simp [Bundle.messageArmAtoms, hx]))
  obtain ⟨P1, Ps, hlen, L1, hL, hP1m, hlink1, hlink⟩ := Bundle.chainS (args := args) hpl hnZ names cls hcls hnames (fun x hx => h x (by simp [Bundle.messageArmAtoms, hx]))
  obtain ⟨Zs, LZs, hn4, hfitv, hfitc⟩ := StringT.of_atoms (args := args) (fun x hx => h x (by simp [Bundle.messageArmAtoms, hx]))
  have hfound : s.vm.findClass cls = some P1.m.cls := findClass_of_methodNamed hP1m
  obtain ⟨c1, kX, hc1, hk, hord, -, -, hn6⟩ := Cond.instantiable_spec (a (.instantiable cls 6) (by simp [Bundle.messageArmAtoms]))
  cases Option.some.inj (hc1.symm.trans hfound)
  have hinit := Cond.initialized_spec hfound hk (a (.initialized cls) (by simp [Bundle.messageArmAtoms]))
  have hctor : kX.findMethod "<init>" "(Ljava/lang/String;)V" = some P1.m.idx := findMethod_of_methodNamed hP1m hk
  have hsel0 : selectMethod e.platform s.vm P1.m.cls T.fill0 = .method T.fill0 := by
    obtain ⟨c2, r2, m2, q1, q2, q3, q4, -⟩ := Cond.selects_spec (a (.selects cls Bundle.tFill0 Bundle.tFill0) (by simp [Bundle.messageArmAtoms]))
    cases Option.some.inj (q1.symm.trans hfound)
    cases Option.some.inj (q2.symm.trans (State.methodFound?_of_named Y.fill0 (by decide)))
    cases Option.some.inj (q3.symm.trans Y.fill0)
    rw [Launch.admits_selectMethod X.admits]; exact q4
  have hselF : selectMethod e.platform s.vm P1.m.cls T.fill = .method T.fill := by
    obtain ⟨c2, r2, m2, q1, q2, q3, q4, -⟩ := Cond.selects_spec (a (.selects cls Bundle.tFill Bundle.tFill) (by simp [Bundle.messageArmAtoms]))
    cases Option.some.inj (q1.symm.trans hfound)
    cases Option.some.inj (q2.symm.trans (State.methodFound?_of_named Y.fill (by decide)))
    cases Option.some.inj (q3.symm.trans Y.fill)
    rw [Launch.admits_selectMethod X.admits]; exact q4
  obtain ⟨cellS0, hcS0, hiss⟩ := Y.statics
  obtain ⟨u0, hu0⟩ := Cond.staticRefV Y.unassigned L.unassignedStatic L.statics hcS0 hiss (a (.isRef (.static Bundle.tN "UNASSIGNED_STACK" Bundle.steD)) (by simp [Bundle.messageArmAtoms]))
  obtain ⟨sen, hsen⟩ := Cond.staticRefV Y.sentinel L.sentinelStatic L.statics hcS0 hiss (a (.isRef (.static Bundle.tN "SUPPRESSED_SENTINEL" Bundle.listD)) (by simp [Bundle.messageArmAtoms]))
  obtain ⟨ci198, i198, fB, hk198, hg198, ha198, hsB, -, hnB, htB, hffB⟩ := Cond.ownField (t := .object "java/lang/Object") Y.found L.cls (by decide +kernel) (a (.fieldLink Bundle.tN 198 Bundle.tN "backtrace" "Ljava/lang/Object;") (by simp [Bundle.messageArmAtoms])) (a (.lays Bundle.tN Bundle.tN "backtrace" "Ljava/lang/Object;") (by simp [Bundle.messageArmAtoms])) e.platform hpl
  obtain ⟨cellS, hcS', heS, -, hkeep⟩ := X.same.2.2.2.2.2 T.aS cellS0 hcS0
  have hcellS : W.heap[T.aS]? = some cellS := hcS'
  have hout' : ∀ i, (⟨T.aS, i⟩ : Loc) ∉ locs := fun i hmem => by
    have := hlocs _ hmem cellS0 hcS0
    rw [hiss] at this; cases this
  have hknownS : cellS.vm ≠ .unknown := by
    rw [heS]; intro hu
    rw [show cellS0.vm = .unknown from hu] at hiss
    cases hiss
  have hvU : cellS.slots[T.fUnassigned.slot]? = some u0.v := by rw [hkeep _ (hout' _)]; exact hu0
  have hvSen : cellS.slots[T.fSentinel.slot]? = some sen.v := by rw [hkeep _ (hout' _)]; exact hsen
  obtain ⟨iM, hffM⟩ := Y.msg
  obtain ⟨tyC, dC, hdC, hdnC⟩ := Cond.laysAt hfound hk Y.cause (a (.lays cls Bundle.tN "cause" "Ljava/lang/Throwable;") (by simp [Bundle.messageArmAtoms]))
  obtain ⟨tyS, dS, hdS, hdnS⟩ := Cond.laysAt hfound hk Y.stack (a (.lays cls Bundle.tN "stackTrace" Bundle.steD) (by simp [Bundle.messageArmAtoms]))
  obtain ⟨tyP, dP, hdP, hdnP⟩ := Cond.laysAt hfound hk Y.supp (a (.lays cls Bundle.tN "suppressedExceptions" Bundle.listD) (by simp [Bundle.messageArmAtoms]))
  obtain ⟨tyM, dM, hdM, hdnM⟩ := Cond.laysAt hfound hk hffM (a (.lays cls Bundle.tN "detailMessage" "Ljava/lang/String;") (by simp [Bundle.messageArmAtoms]))
  obtain ⟨tyB, dB, hdB, hdnB⟩ := Cond.laysAt hfound hk hffB (a (.lays cls Bundle.tN "backtrace" "Ljava/lang/Object;") (by simp [Bundle.messageArmAtoms]))
  have bC := Cond.laysApart hdB hdC hdnB hdnC (by rw [hnB, Y.causeName]; decide)
  have bS := Cond.laysApart hdB hdS hdnB hdnS (by rw [hnB, Y.stackName]; decide)
  have bP := Cond.laysApart hdB hdP hdnB hdnP (by rw [hnB, Y.suppName]; decide)
  have hbk : ((preparedCellV T.toThrowableT (freshCell P1.m.cls kX) (W.heap.size + 2) u0 sen).withEntry W.cur).slots[fB.slot]? = some .null := by
    have := fresh_default (c := P1.m.cls) tyB
    rw [htB] at this
    simpa [preparedCellV, Cell.setSlot, Cell.withEntry, Array.getElem?_setIfInBounds, bC, bS, bP, bC.symm, bS.symm, bP.symm, defaultValue] using this
  have tkC := Takes.of_laid (v := .ref (W.heap.size + 2)) hk hord tyC (by rw [Y.causeType]; rfl)
  have tkS := Takes.of_laid (v := u0.v) hk hord tyS (by rw [Y.stackType]; exact fits_refV_array _ u0)
  have tkP := Takes.of_laid (v := sen.v) hk hord tyP (by rw [Y.suppType]; exact fits_refV_object _ sen)
  have tkM := Takes.of_laid (v := .ref (W.heap.size + 1)) hk hord tyM (by rw [Y.msgType]; rfl)
  have hskip : SkipFacts T e.platform s (fun u => u) u0 ((preparedCellV T.toThrowableT (freshCell P1.m.cls kX) (W.heap.size + 2) u0 sen).withEntry W.cur) := ⟨{ ci198 := ci198, i198 := i198, fBack := fB }, ⟨hk198, hg198, ha198, hsB⟩, hbk, fun _ _ => rfl⟩
  have h0 : At W g.method c below := by rw [hg]; exact X.here
  obtain ⟨hbeyond, hfreeW⟩ := X.vmMayThrow hsize (.throwNew cls (some text) none) (fun f hf => by cases hf) rfl hRlocals
  have hfr' : W.frames.length + Ps.length + 4 < (e.platform.stackLimits W.me).1 := by have := X.framesAbove hRframes; omega
  have hwd' : (stackUse (.java g :: W.frames.tail)).2 + 13 * Ps.length + 55 ≤ (e.platform.stackLimits W.me).2 := by have := X.stackAbove hsize (K := 13 * Ps.length + 55) (by omega); omega
  have hslots : W.slotsUsed + (stringBytes (stringToUtf16 text)).size + Zs.kS.instanceTypes.size + kX.instanceTypes.size ≤ e.platform.maxSlots := by
    have := X.slotsAbove hRslots
    rw [hn4, hn6]
    omega
  obtain ⟨vm', hW', st⟩ := Steps.vmThrowsMessageColdByV p (s₀ := s) (S := W) (g := g) h0 hexec T L Z LZ M LM X.warmed (t := W.cur) rfl Zs LZs P1 L1 Ps hL hlink1 hlink hsoe hoom hfound hk hinit hord hctor
    (Launch.admits_hotImplicitExceptions X.admits) hbeyond hfreeW htext hlimit hheap (X.cellsAbove hRcells) hslots (hfitv _) (hfitc _)
    (Nn := fun u => u) heapOnly_id (fun _ _ => rfl) (fun _ => rfl) (fun u x y => setCell_twice _ _ _ _) (fun _ => Nat.le_refl _) (cN := ((preparedCellV T.toThrowableT (freshCell P1.m.cls kX) (W.heap.size + 2) u0 sen).withEntry W.cur))
    hsel0 hcellS hknownS hvU tkS (fun _ hu => hu) (fun _ hu => hu) rfl rfl rfl (by simp [preparedCellV, Cell.setSlot, Cell.withEntry]) hskip (fun _ _ hA hW _ hroom _ hrest => L.nativeOff p htr hA hW hroom hrest) hselF hvSen tkC tkP tkM Y.objLocals rfl hfr' hwd'
  rw [plainBareV_eq T.toThrowableT (W.heap.size + 2) u0 sen (.ref (W.heap.size + 1)) W.cur rfl rfl] at st
  obtain ⟨-, -, w3, w4, -, -, -⟩ := withThrown_facts e.platform W Zs text P1.m.cls kX
  have X3 := ((X.pushed (bytesOf Zs.cB (stringToUtf16 text))).pushed (stringAt Zs.cS Zs.kS Zs.fv Zs.fc (stringToUtf16 text) W.heap.size)).pushed (freshCell P1.m.cls kX)
  rw [← withString_eq] at X3
  have X4 := X3.noted hW'
  have ha : (W.heap.size + 2) < ((withThrown W Zs text P1.m.cls kX).setVm vm').heap.size := by show _ < (withThrown W Zs text P1.m.cls kX).heap.size; rw [w3]; omega
  have hcell : ((withThrown W Zs text P1.m.cls kX).setVm vm').heap[(W.heap.size + 2)]? = some (freshCell P1.m.cls kX) := w4
  have X5 := ((((X4.stored hcell T.fCause.slot (.ref (W.heap.size + 2))).storedAgain ha T.fStack.slot u0.v).storedAgain ha T.fSupp.slot sen.v).storedAgain ha T.fStack.slot u0.v).storedAgain ha T.fMsg.slot (.ref (W.heap.size + 1))
  obtain ⟨g₁, hfrM⟩ := X5.frames_eq
  have hU : ((((withThrown W Zs text P1.m.cls kX).setVm vm').setCell (W.heap.size + 2) (plainBareV T.toThrowableT (freshCell P1.m.cls kX) (W.heap.size + 2) u0 sen (.ref (W.heap.size + 1)))).setTop g).pushFrame (.throwing (W.heap.size + 2)) = (((withThrown W Zs text P1.m.cls kX).setVm vm').setCell (W.heap.size + 2) (plainBareV T.toThrowableT (freshCell P1.m.cls kX) (W.heap.size + 2) u0 sen (.ref (W.heap.size + 1)))).setFrames (.throwing (W.heap.size + 2) :: .java g :: below) := by
    rw [State.pushFrame, State.frames_setTop _ hfrM, State.setTop_of_frames _ hfrM, State.setFrames_setFrames]
  have b1 : (bytesOf Zs.cB (stringToUtf16 text)).slots.size = (stringBytes (stringToUtf16 text)).size := by
    rw [(Cell.writeAll_facts _ _).2.2]; simp [bytes0]
  have b2 : (stringAt Zs.cS Zs.kS Zs.fv Zs.fc (stringToUtf16 text) W.heap.size).slots.size = 4 := by simp [string0, Cell.setSlot, hn4]
  have b3 : (freshCell P1.m.cls kX).slots.size = 6 := by simp [hn6]
  rw [b1, b2, b3] at X5
  have e9 : slots + (stringBytes (stringToUtf16 text)).size + 4 + 6 = slots + ((stringBytes (stringToUtf16 text)).size + 4 + 6) := by omega
  rw [e9] at X5
  simp only [List.append_assoc, List.cons_append, List.nil_append] at X5
  refine ⟨((withThrown W Zs text P1.m.cls kX).setVm vm').setCell (W.heap.size + 2) (plainBareV T.toThrowableT (freshCell P1.m.cls kX) (W.heap.size + 2) u0 sen (.ref (W.heap.size + 1))), W.heap.size + 2, _, fun target ht => st _ (by rw [X.tail, ← hU]; exact ht),
    X5.forget (fun y hy => ?_), heapAt_setCell_self _ ha, hfound, rfl⟩
  simp only [List.mem_cons, List.not_mem_nil, or_false] at hy
  have hge : s.heap.size ≤ W.heap.size := X.same.2.1
  rcases hy with rfl | rfl | rfl | rfl | rfl <;> exact Nat.le_trans hge (Nat.le_add_right _ 2)
set_option maxHeartbeats 1000000 in
/-- the machine throws NullPointerException, no traces kept: from its note over the frame g to 'throwing' over the same frame (follows the proof of Stand.vmThrowsNpe, Shelf42/KT2.lean; throwsNpeColdBareVAt, Shelf42/NT91.lean, called) -/
theorem vx_npeAt {p : Program} {l : Launch} {e : Env} {R : Room} {s : State} {m₀ : MethodId} {args : Array Value} {below : List Frame} {meth : Method} {c : Code} {W : State} {locs : List Loc} {cells slots : Nat}
    (X : Stand p l e R s m₀ args below meth c W locs cells slots) (hexec : p.tables.exec = Jvm.exec) (htr : e.platform.stackTraces = false) {n : Nat}
    (h : ∀ a ∈ Bundle.npeArmAtoms n, a.before args s = true)
    (hlocs : ∀ x ∈ locs, ∀ cell, s.heap[x.base]? = some cell → cell.vm.isStatics = false)
    {g : JFrame} (hg : g.method = m₀) (hsize : g.locals.size = c.maxLocals)
    (hRframes : 7 < R.frames) (hRlocals : 2 * g.monitorRoom + (g.stack.map fun v => v.category).sum + 10240 ≤ R.locals)
    (hRcells : cells + 1 ≤ R.cells) (hRslots : slots + n ≤ R.slots) (hlocks : meth.locks = false) :
    ∃ (S : State) (q : Addr) (ce : Cell), (∀ target, Steps p.tables e below ((S.setTop g).pushFrame (.throwing q)) target → Steps p.tables e below ((W.setTop g).pushFrame (.throwNew "java/lang/NullPointerException" none none)) target) ∧
      Stand p l e R s m₀ args below meth c S locs (cells + 1) (slots + n) ∧ S.heap[q]? = some ce ∧ s.vm.findClass "java/lang/NullPointerException" = some ce.cls ∧ ce.vm = .none := by
  have howns : e.platform.frameOwnsMonitors = true := by rw [X.admits.platform]
  have hfin : e.platform.finalization = false := by rw [X.admits.platform]
  have hpl : e.platform.magicAccessors = ({} : Platform).magicAccessors := by rw [X.admits.platform]
  have hpl2 : e.platform.arrayCloneIsPublic = true := by rw [X.admits.platform]
  have a' : ∀ x, x ∈ Bundle.npeArmAtoms n → x.holds args s none s [] = true := fun x hx => h x hx
  obtain ⟨T, Z, L, LZ, Y⟩ := ThrowableC.of_atoms (args := args) howns hfin hpl (fun x hx => h x (by simp [Bundle.npeArmAtoms, hx]))
  obtain ⟨N, LN, hcN, hnNF, hordN, hffS⟩ := NpeC.of_atoms (args := args) hpl hpl2 L Y (fun x hx => h x (by simp [Bundle.npeArmAtoms, hx]))
  obtain ⟨P1, L1, hP1m, hP1s⟩ := PassC.of_atoms (args := args) (s := s) hpl (X := Bundle.nN) (Y := Bundle.rN) (by decide) (by decide) LibCode.NullPointerException.Init0.at_0 LibCode.NullPointerException.Init0.at_1 LibCode.NullPointerException.Init0.at_4 (fun x hx => h x (by simp [Bundle.npeArmAtoms, hx]))
  obtain ⟨PR, LR, hPRm, hPRs⟩ := PassC.of_atoms (args := args) (s := s) hpl (X := Bundle.rN) (Y := Bundle.eN) (by decide) (by decide) LibCode.RuntimeException.Init0.at_0 LibCode.RuntimeException.Init0.at_1 LibCode.RuntimeException.Init0.at_4 (fun x hx => h x (by simp [Bundle.npeArmAtoms, hx]))
  obtain ⟨PE, LEx, hPEm, hPEs⟩ := PassC.of_atoms (args := args) (s := s) hpl (X := Bundle.eN) (Y := Bundle.tN) (by decide) (by decide) LibCode.Exception.Init0.at_0 LibCode.Exception.Init0.at_1 LibCode.Exception.Init0.at_4 (fun x hx => h x (by simp [Bundle.npeArmAtoms, hx]))
  have hfound : s.vm.findClass Bundle.nN = some P1.m.cls := findClass_of_methodNamed hP1m
  have ecls : N.cN = P1.m.cls := Option.some.inj (hcN.symm.trans hfound)
  have hk : s.vm.classes[P1.m.cls]? = some N.kN := by rw [← ecls]; exact LN.cls
  have hinit := Cond.initialized_spec hfound hk (a' (.initialized Bundle.nN) (by simp [Bundle.npeArmAtoms]))
  have hctor : N.kN.findMethod "<init>" "()V" = some P1.m.idx := findMethod_of_methodNamed hP1m hk
  obtain ⟨c1, k1, hc1, hk1, -, -, -, hn⟩ := Cond.instantiable_spec (a' (.instantiable Bundle.nN n) (by simp [Bundle.npeArmAtoms]))
  cases Option.some.inj (hc1.symm.trans hfound)
  cases Option.some.inj (hk1.symm.trans hk)
  have hfsz : (freshCell P1.m.cls N.kN).slots.size = n := by simp [hn]
  have hlink1 : P1.sup = PR.m := Option.some.inj (hP1s.symm.trans hPRm)
  have hlinkR : PR.sup = PE.m := Option.some.inj (hPRs.symm.trans hPEm)
  have hlinkE : PE.sup = Z.m T.toThrowableT := Option.some.inj (hPEs.symm.trans Y.init0)
  have hLs : ∀ P, P ∈ [PR, PE] → P.Links0 e.platform s := fun P hP => by
    simp only [List.mem_cons, List.not_mem_nil, or_false] at hP
    rcases hP with rfl | rfl
    · exact LR
    · exact LEx
  have hsel0 : selectMethod e.platform s.vm P1.m.cls T.fill0 = .method T.fill0 := by
    obtain ⟨c2, r2, m2, q1, q2, q3, q4, -⟩ := Cond.selects_spec (a' (.selects Bundle.nN Bundle.tFill0 Bundle.tFill0) (by simp [Bundle.npeArmAtoms]))
    cases Option.some.inj (q1.symm.trans hfound)
    cases Option.some.inj (q2.symm.trans (State.methodFound?_of_named Y.fill0 (by decide)))
    cases Option.some.inj (q3.symm.trans Y.fill0)
    rw [Launch.admits_selectMethod X.admits]; exact q4
  have hselF : selectMethod e.platform s.vm P1.m.cls T.fill = .method N.fill := by
    obtain ⟨c2, r2, m2, q1, q2, q3, q4, -⟩ := Cond.selects_spec (a' (.selects Bundle.nN Bundle.tFill Bundle.nFill) (by simp [Bundle.npeArmAtoms]))
    cases Option.some.inj (q1.symm.trans hfound)
    cases Option.some.inj (q2.symm.trans (State.methodFound?_of_named Y.fill (by decide)))
    cases Option.some.inj (q3.symm.trans hnNF)
    rw [Launch.admits_selectMethod X.admits]; exact q4
  obtain ⟨cellS0, hcS0, hiss⟩ := Y.statics
  obtain ⟨u0, hu0⟩ := Cond.staticRefV Y.unassigned L.unassignedStatic L.statics hcS0 hiss (a' (.isRef (.static Bundle.tN "UNASSIGNED_STACK" Bundle.steD)) (by simp [Bundle.npeArmAtoms]))
  obtain ⟨sen, hsen⟩ := Cond.staticRefV Y.sentinel L.sentinelStatic L.statics hcS0 hiss (a' (.isRef (.static Bundle.tN "SUPPRESSED_SENTINEL" Bundle.listD)) (by simp [Bundle.npeArmAtoms]))
  obtain ⟨ci198, i198, fB, hk198, hg198, ha198, hsB, -, hnB, htB, hffB⟩ := Cond.ownField (t := .object "java/lang/Object") Y.found L.cls (by decide +kernel) (a' (.fieldLink Bundle.tN 198 Bundle.tN "backtrace" Bundle.objD) (by simp [Bundle.npeArmAtoms])) (a' (.lays Bundle.tN Bundle.tN "backtrace" Bundle.objD) (by simp [Bundle.npeArmAtoms])) e.platform hpl
  obtain ⟨cellS, hcS', heS, -, hkeep⟩ := X.same.2.2.2.2.2 T.aS cellS0 hcS0
  have hcellS : W.heap[T.aS]? = some cellS := hcS'
  have hout' : ∀ i, (⟨T.aS, i⟩ : Loc) ∉ locs := fun i hmem => by
    have := hlocs _ hmem cellS0 hcS0
    rw [hiss] at this; cases this
  have hknownS : cellS.vm ≠ .unknown := by
    rw [heS]; intro hu
    rw [show cellS0.vm = .unknown from hu] at hiss
    cases hiss
  have hvU : cellS.slots[T.fUnassigned.slot]? = some u0.v := by rw [hkeep _ (hout' _)]; exact hu0
  have hvSen : cellS.slots[T.fSentinel.slot]? = some sen.v := by rw [hkeep _ (hout' _)]; exact hsen
  obtain ⟨tyC, dC, hdC, hdnC⟩ := Cond.laysAt hfound hk Y.cause (a' (.lays Bundle.nN Bundle.tN "cause" "Ljava/lang/Throwable;") (by simp [Bundle.npeArmAtoms]))
  obtain ⟨tyS, dS, hdS, hdnS⟩ := Cond.laysAt hfound hk Y.stack (a' (.lays Bundle.nN Bundle.tN "stackTrace" Bundle.steD) (by simp [Bundle.npeArmAtoms]))
  obtain ⟨tyP, dP, hdP, hdnP⟩ := Cond.laysAt hfound hk Y.supp (a' (.lays Bundle.nN Bundle.tN "suppressedExceptions" Bundle.listD) (by simp [Bundle.npeArmAtoms]))
  obtain ⟨tyX, dX, hdX, hdnX⟩ := Cond.laysAt hfound hk hffS (a' (.lays Bundle.nN Bundle.nN "extendedMessageState" "I") (by simp [Bundle.npeArmAtoms, Bundle.npeAtoms]))
  obtain ⟨hnX, htX⟩ := State.fieldFound?_type hffS (t := .int) (by decide +kernel)
  have xC := Cond.laysApart hdC hdX hdnC hdnX (by rw [hnX, Y.causeName]; decide)
  have xS := Cond.laysApart hdS hdX hdnS hdnX (by rw [hnX, Y.stackName]; decide)
  have xP := Cond.laysApart hdP hdX hdnP hdnX (by rw [hnX, Y.suppName]; decide)
  have hv0 : (freshCell P1.m.cls N.kN).slots[N.fState.slot]? = some (.int 0) := by
    have := fresh_default (c := P1.m.cls) tyX
    rw [htX] at this; exact this
  obtain ⟨tyB, dB, hdB, hdnB⟩ := Cond.laysAt hfound hk hffB (a' (.lays Bundle.nN Bundle.tN "backtrace" Bundle.objD) (by simp [Bundle.npeArmAtoms]))
  have bC := Cond.laysApart hdB hdC hdnB hdnC (by rw [hnB, Y.causeName]; decide)
  have bS := Cond.laysApart hdB hdS hdnB hdnS (by rw [hnB, Y.stackName]; decide)
  have bP := Cond.laysApart hdB hdP hdnB hdnP (by rw [hnB, Y.suppName]; decide)
  have bX := Cond.laysApart hdB hdX hdnB hdnX (by rw [hnB, hnX]; decide)
  have hbk : ((npeCell N.toNpeT (preparedCellV T.toThrowableT (freshCell P1.m.cls N.kN) W.heap.size u0 sen) W.cur).withEntry W.cur).slots[fB.slot]? = some .null := by
    have := fresh_default (c := P1.m.cls) tyB
    rw [htB] at this
    simpa [npeCell, preparedCellV, Cell.setSlot, Cell.withEntry, Array.getElem?_setIfInBounds, bC, bS, bP, bX, bC.symm, bS.symm, bP.symm, bX.symm, defaultValue] using this
  have tkC := Takes.of_laid (v := .ref W.heap.size) hk hordN tyC (by rw [Y.causeType]; rfl)
  have tkS := Takes.of_laid (v := u0.v) hk hordN tyS (by rw [Y.stackType]; exact fits_refV_array _ u0)
  have tkP := Takes.of_laid (v := sen.v) hk hordN tyP (by rw [Y.suppType]; exact fits_refV_object _ sen)
  have tkX := Takes.of_laid (v := .int 1) hk hordN tyX (by rw [htX]; rfl)
  have hskip : SkipFacts T e.platform s (fun u => u) u0 ((npeCell N.toNpeT (preparedCellV T.toThrowableT (freshCell P1.m.cls N.kN) W.heap.size u0 sen) W.cur).withEntry W.cur) := ⟨{ ci198 := ci198, i198 := i198, fBack := fB }, ⟨hk198, hg198, ha198, hsB⟩, hbk, fun _ _ => rfl⟩
  obtain ⟨vm', X3, st, -⟩ := X.throwsNpeColdBareVAt hexec hg hsize T L Z LZ N LN P1 L1 [PR, PE] hLs hlink1 ⟨hlinkR, hlinkE, trivial⟩ hfound hk hinit hordN hctor hsel0 hselF hcellS hknownS hvU hvSen
    hv0 xC xS xP tkC tkS tkP tkX Y.objLocals hskip (fun _ _ hA hW _ hroom _ hrest => L.nativeOff p htr hA hW hroom hrest) (by simpa using hRframes) hRlocals (by simp) hRcells (by rw [hn]; exact hRslots)
  have hlt : W.heap.size < ((W.pushCell (freshCell P1.m.cls N.kN)).setVm vm').heap.size := by
    show W.heap.size < (W.pushCell (freshCell P1.m.cls N.kN)).heap.size
    rw [State.heap_size_pushCell]; omega
  rw [hfsz] at X3
  obtain ⟨g₁, hfrM⟩ := X3.frames_eq
  have hU : ((((W.pushCell (freshCell P1.m.cls N.kN)).setVm vm').setCell W.heap.size (npeBareV T.toThrowableT N.toNpeT (freshCell P1.m.cls N.kN) W.heap.size u0 sen)).setTop g).pushFrame (.throwing W.heap.size) = (((W.pushCell (freshCell P1.m.cls N.kN)).setVm vm').setCell W.heap.size (npeBareV T.toThrowableT N.toNpeT (freshCell P1.m.cls N.kN) W.heap.size u0 sen)).setFrames (.throwing W.heap.size :: .java g :: below) := by
    rw [State.pushFrame, State.frames_setTop _ hfrM, State.setTop_of_frames _ hfrM, State.setFrames_setFrames]
  refine ⟨_, W.heap.size, _, fun target ht => st.trans (by rw [← hU]; exact ht), X3.forget (fun y hy => ?_), heapAt_setCell_self _ hlt, hfound, rfl⟩
  simp only [List.mem_cons, List.not_mem_nil, or_false] at hy
  have hge : s.heap.size ≤ W.heap.size := X.same.2.1
  rcases hy with rfl | rfl | rfl | rfl | rfl <;> exact hge
/-- the words of a machine's NullPointerException, but the four that speak of the heap -/
def vx_atN (n : Nat) : List Cond := (Bundle.npeArmAtoms n).filter vx_no
/-- the words of a machine's throw with a message, but the four that speak of the heap -/
def vx_atM (X : String) (names : List String) : List Cond := (Bundle.messageArmAtoms X names).filter vx_no
section
variable {p : Program} {l : Launch} {e : Env} {R : Room} {s : State} {m : MethodId} {args : Array Value} {below : List Frame} {meth : Method} {c : Code} {H : Heap} {locs : List Loc} {cells slots : Nat}
/-- a frame seen from a rebased start, seen from the first start again -/
theorem vx_back9 {T S : State} {R' : Room} {k n : Nat} (X : Stand p l e R s m args below meth c T locs cells slots) (Y : Stand p l e R' ((T.setVm s.vm).setFrames (.invoking m args :: below)) m args below meth c T [] 0 0) (Z : Stand p l e R' ((T.setVm s.vm).setFrames (.invoking m args :: below)) m args below meth c S [] k n) :
    Stand p l e R s m args below meth c S locs (cells + k) (slots + n) := by
  have hW0 : s.WarmedH ((T.setVm s.vm).setFrames (.invoking m args :: below)).vm := State.WarmedH.refl s
  refine { admits := X.admits, cas := X.cas, clock := X.clock, frames := X.frames, room := X.room, hears := X.hears, method := X.method, code := X.code, here := Z.here, tail := Z.tail, warmed := State.WarmedH.trans hW0 Z.warmed, limits := Z.limits.trans (Y.limits.symm.trans X.limits), bytes := Z.bytes.trans (Y.bytes.symm.trans X.bytes), same := ?_ }
  obtain ⟨e1, e2⟩ := Z.same
  rw [State.setFrames_setFrames] at e1
  have h2 : (T.setVm s.vm).sameButNew (S.setVm s.vm) [] k n := ⟨e1, e2⟩
  have h3 := X.same.trans h2
  rw [List.append_nil] at h3
  exact h3
/-- from the machine's note that E is thrown here with this text -/
def vx_Note (p : Program) (l : Launch) (e : Env) (R : Room) (s : State) (m : MethodId) (args : Array Value) (below : List Frame) (meth : Method) (c : Code) (H : Heap) (locs : List Loc) (cells slots : Nat) (Q : State → Prop) (g : JFrame) (E text : String) : Prop :=
  ∀ T : State, T.heap = H → Stand p l e R s m args below meth c T locs cells slots → ∃ t, Steps p.tables e below ((T.setTop g).pushFrame (.throwNew E (some text) none)) t ∧ Q t
theorem vx_vm {pc : Nat} {ls : Array Slot} {rest : List Value} {Q : State → Prop} (hexec : p.tables.exec = Jvm.exec) (hl : l.stackTraces = false) {cls text : String} {names : List String} {nb : Nat} {A : Nat → Prop}
    (hcls : Bundle.fit cls = true) (hnames : ∀ n ∈ names, Bundle.fit n = true) (hsoe : (cls == "java/lang/StackOverflowError") = false) (hoom : (cls == "java/lang/OutOfMemoryError") = false)
    (hat : ∀ w ∈ vx_atM cls names, w.before args s = true) (hgood : ∀ w ∈ vx_atM cls names, vx_ot w = true)
    (hU : vx_Zq Bundle.tN "UNASSIGNED_STACK" Bundle.steD A s s.heap) (hN : vx_Zq Bundle.tN "SUPPRESSED_SENTINEL" Bundle.listD A s s.heap) (hS : va_S A s.heap H locs) (hsize : ls.size = c.maxLocals)
    (htext : (text == notModelled) = false) (hnb : (stringBytes (stringToUtf16 text)).size ≤ nb) (hnb1 : nb ≤ 1000)
    (hRframes : names.length + 4 < R.frames) (hRlocals : (rest.map fun v => v.category).sum + 10240 ≤ R.locals) (hshort : 13 * names.length + 55 ≤ 10240) (hRcells : cells + 3 ≤ R.cells) (hRslots : slots + (nb + 10) ≤ R.slots) (hlocks : meth.locks = false)
    (k : ∀ (H1 : Heap) (q9 : Addr) (ce : Cell), H.size ≤ H1.size → (∀ q : Nat, q < H.size → H1[q]? = H[q]?) → va_S A s.heap H1 locs → H1[q9]? = some ce → ce.vm = .none → s.vm.findClass cls = some ce.cls → vx_W p l e R s m args below meth c H1 locs (cells + 3) (slots + (nb + 10)) Q (F0 m pc ls rest) q9) :
    vx_Note p l e R s m args below meth c H locs cells slots Q (F0 m pc ls rest) cls text := by
  intro T hT X
  have htr : e.platform.stackTraces = false := (show e.platform.stackTraces = l.stackTraces by rw [X.admits.platform]).trans hl
  have Y := vx_rebase X (R' := { frames := R.frames, locals := R.locals, cells := 3, slots := nb + 10 }) (Nat.le_refl _) (Nat.le_refl _) hRcells hRslots
  have hhp : ((T.setVm s.vm).setFrames (.invoking m args :: below)).heap = H := hT
  have hW0 : s.WarmedH ((T.setVm s.vm).setFrames (.invoking m args :: below)).vm := State.WarmedH.refl s
  have hat' : ∀ w ∈ vx_atM cls names, w.before args ((T.setVm s.vm).setFrames (.invoking m args :: below)) = true := fun w hw => vx_ot_at hW0 rfl (hgood w hw) (hat w hw)
  have hU' : vx_Zq Bundle.tN "UNASSIGNED_STACK" Bundle.steD A ((T.setVm s.vm).setFrames (.invoking m args :: below)) ((T.setVm s.vm).setFrames (.invoking m args :: below)).heap := by rw [hhp]; exact vx_Zq.moved hW0.alike (hU.kept hS.2.1)
  have hN' : vx_Zq Bundle.tN "SUPPRESSED_SENTINEL" Bundle.listD A ((T.setVm s.vm).setFrames (.invoking m args :: below)) ((T.setVm s.vm).setFrames (.invoking m args :: below)).heap := by rw [hhp]; exact vx_Zq.moved hW0.alike (hN.kept hS.2.1)
  obtain ⟨S, q, ce, st, Z, hce, hcl', hv⟩ := vx_vmAt Y hexec htr (cls := cls) (names := names) (text := text) hcls hnames hsoe hoom (vx_own hat' (vx_isRefq hU'.1) (vx_isRefq hN'.1) hU'.2.word hN'.2.word) (fun x hx => nomatch hx) htext
    (by rw [Launch.admits_arrayLengthLimit X.admits]; omega) (by rw [Launch.admits_maxHeapBytes X.admits]; simp only [componentBytes]; omega)
    (g := F0 m pc ls rest) rfl hsize hRframes (by show 2 * 0 + (rest.map fun v => v.category).sum + 10240 ≤ R.locals; omega) hshort (by show 0 + 3 ≤ 3; omega) (by show 0 + (_ + 4 + 6) ≤ nb + 10; omega) hlocks
  obtain ⟨f1, f2⟩ := vx_frame Z.same
  have f1' : H.size ≤ S.heap.size := by rw [← hT]; exact f1
  have f2' : ∀ q : Nat, q < H.size → S.heap[q]? = H[q]? := fun q hq => by
    rw [← hT]
    exact f2 q (by rw [← hT] at hq; exact hq) (fun z hz => nomatch hz)
  have X5 := vx_back9 X Y Z
  have X6 : Stand p l e R s m args below meth c S locs (cells + 3) (slots + (nb + 10)) := { X5 with same := X5.same.mono (by omega) (by omega) }
  obtain ⟨t, a1, b1⟩ := k S.heap q ce f1' f2' ⟨Nat.le_trans hS.1 f1', fun q h1 h2 => (f2' q (Nat.lt_of_lt_of_le h1 hS.1)).trans (hS.2.1 q h1 h2), hS.2.2⟩ hce hv hcl' S rfl X6
  exact ⟨t, st t a1, b1⟩
/-- from the machine's note that NullPointerException is thrown here -/
def vx_NoteN (p : Program) (l : Launch) (e : Env) (R : Room) (s : State) (m : MethodId) (args : Array Value) (below : List Frame) (meth : Method) (c : Code) (H : Heap) (locs : List Loc) (cells slots : Nat) (Q : State → Prop) (g : JFrame) : Prop :=
  ∀ T : State, T.heap = H → Stand p l e R s m args below meth c T locs cells slots → ∃ t, Steps p.tables e below ((T.setTop g).pushFrame (.throwNew "java/lang/NullPointerException" none none)) t ∧ Q t
theorem vx_npe {pc : Nat} {ls : Array Slot} {rest : List Value} {Q : State → Prop} (hexec : p.tables.exec = Jvm.exec) (hl : l.stackTraces = false) {nb : Nat} {A : Nat → Prop}
    (hat : ∀ w ∈ vx_atN nb, w.before args s = true) (hgood : ∀ w ∈ vx_atN nb, vx_ot w = true)
    (hU : vx_Zq Bundle.tN "UNASSIGNED_STACK" Bundle.steD A s s.heap) (hN : vx_Zq Bundle.tN "SUPPRESSED_SENTINEL" Bundle.listD A s s.heap) (hS : va_S A s.heap H locs) (hsize : ls.size = c.maxLocals)
    (hRframes : 7 < R.frames) (hRlocals : (rest.map fun v => v.category).sum + 10240 ≤ R.locals) (hRcells : cells + 1 ≤ R.cells) (hRslots : slots + nb ≤ R.slots) (hlocks : meth.locks = false)
    (k : ∀ (H1 : Heap) (q9 : Addr) (ce : Cell), H.size ≤ H1.size → (∀ q : Nat, q < H.size → H1[q]? = H[q]?) → va_S A s.heap H1 locs → H1[q9]? = some ce → ce.vm = .none → s.vm.findClass "java/lang/NullPointerException" = some ce.cls → vx_W p l e R s m args below meth c H1 locs (cells + 1) (slots + nb) Q (F0 m pc ls rest) q9) :
    vx_NoteN p l e R s m args below meth c H locs cells slots Q (F0 m pc ls rest) := by
  intro T hT X
  have htr : e.platform.stackTraces = false := (show e.platform.stackTraces = l.stackTraces by rw [X.admits.platform]).trans hl
  have Y := vx_rebase X (R' := { frames := R.frames, locals := R.locals, cells := 1, slots := nb }) (Nat.le_refl _) (Nat.le_refl _) hRcells hRslots
  have hhp : ((T.setVm s.vm).setFrames (.invoking m args :: below)).heap = H := hT
  have hW0 : s.WarmedH ((T.setVm s.vm).setFrames (.invoking m args :: below)).vm := State.WarmedH.refl s
  have hat' : ∀ w ∈ vx_atN nb, w.before args ((T.setVm s.vm).setFrames (.invoking m args :: below)) = true := fun w hw => vx_ot_at hW0 rfl (hgood w hw) (hat w hw)
  have hU' : vx_Zq Bundle.tN "UNASSIGNED_STACK" Bundle.steD A ((T.setVm s.vm).setFrames (.invoking m args :: below)) ((T.setVm s.vm).setFrames (.invoking m args :: below)).heap := by rw [hhp]; exact vx_Zq.moved hW0.alike (hU.kept hS.2.1)
  have hN' : vx_Zq Bundle.tN "SUPPRESSED_SENTINEL" Bundle.listD A ((T.setVm s.vm).setFrames (.invoking m args :: below)) ((T.setVm s.vm).setFrames (.invoking m args :: below)).heap := by rw [hhp]; exact vx_Zq.moved hW0.alike (hN.kept hS.2.1)
  obtain ⟨S, q, ce, st, Z, hce, hcl', hv⟩ := vx_npeAt Y hexec htr (n := nb) (vx_own hat' (vx_isRefq hU'.1) (vx_isRefq hN'.1) hU'.2.word hN'.2.word) (fun x hx => nomatch hx)
    (g := F0 m pc ls rest) rfl hsize hRframes (by show 2 * 0 + (rest.map fun v => v.category).sum + 10240 ≤ R.locals; omega) (by show 0 + 1 ≤ 1; omega) (by show 0 + nb ≤ nb; omega) hlocks
  obtain ⟨f1, f2⟩ := vx_frame Z.same
  have f1' : H.size ≤ S.heap.size := by rw [← hT]; exact f1
  have f2' : ∀ q : Nat, q < H.size → S.heap[q]? = H[q]? := fun q hq => by
    rw [← hT]
    exact f2 q (by rw [← hT] at hq; exact hq) (fun z hz => nomatch hz)
  have X5 := vx_back9 X Y Z
  have X6 : Stand p l e R s m args below meth c S locs (cells + 1) (slots + nb) := { X5 with same := X5.same.mono (by omega) (by omega) }
  obtain ⟨t, a1, b1⟩ := k S.heap q ce f1' f2' ⟨Nat.le_trans hS.1 f1', fun q h1 h2 => (f2' q (Nat.lt_of_lt_of_le h1 hS.1)).trans (hS.2.1 q h1 h2), hS.2.2⟩ hce hv hcl' S rfl X6
  exact ⟨t, st t a1, b1⟩
variable {Q : State → Prop} {cc : ByteArray} {pc : Nat} {ls : Array Slot} {rest : List Value}
theorem vx_idivZ (hexec : p.tables.exec = Jvm.exec) (hb : c.code = cc) {a b : Int32} (h0 : b = 0) (d : decode cc pc = .ok (.idiv, 1)) (k : vx_Note p l e R s m args below meth c H locs cells slots Q (F0 m pc ls rest) "java/lang/ArithmeticException" "/ by zero") :
    W p l e R s m args below meth c H locs cells slots Q (F0 m pc ls (.int b :: .int a :: rest)) := by
  intro T hT X
  obtain ⟨t, st, q⟩ := k T hT X
  exact ⟨t, X.idivZero hexec (g := F0 m pc ls (.int b :: .int a :: rest)) rfl (a := a) (rest := rest) (by rw [h0]) (by rw [hb]; exact d) t st, q⟩
theorem vx_iremZ (hexec : p.tables.exec = Jvm.exec) (hb : c.code = cc) {a b : Int32} (h0 : b = 0) (d : decode cc pc = .ok (.irem, 1)) (k : vx_Note p l e R s m args below meth c H locs cells slots Q (F0 m pc ls rest) "java/lang/ArithmeticException" "/ by zero") :
    W p l e R s m args below meth c H locs cells slots Q (F0 m pc ls (.int b :: .int a :: rest)) := by
  intro T hT X
  obtain ⟨t, st, q⟩ := k T hT X
  exact ⟨t, X.iremZero hexec (g := F0 m pc ls (.int b :: .int a :: rest)) rfl (a := a) (rest := rest) (by rw [h0]) (by rw [hb]; exact d) t st, q⟩
theorem vx_ldivZ (hexec : p.tables.exec = Jvm.exec) (hb : c.code = cc) {a b : Int64} (h0 : b = 0) (d : decode cc pc = .ok (.ldiv, 1)) (k : vx_Note p l e R s m args below meth c H locs cells slots Q (F0 m pc ls rest) "java/lang/ArithmeticException" "/ by zero") :
    W p l e R s m args below meth c H locs cells slots Q (F0 m pc ls (.long b :: .long a :: rest)) := by
  intro T hT X
  obtain ⟨t, st, q⟩ := k T hT X
  exact ⟨t, X.ldivZero hexec (g := F0 m pc ls (.long b :: .long a :: rest)) rfl (a := a) (rest := rest) (by rw [h0]) (by rw [hb]; exact d) t st, q⟩
theorem vx_lremZ (hexec : p.tables.exec = Jvm.exec) (hb : c.code = cc) {a b : Int64} (h0 : b = 0) (d : decode cc pc = .ok (.lrem, 1)) (k : vx_Note p l e R s m args below meth c H locs cells slots Q (F0 m pc ls rest) "java/lang/ArithmeticException" "/ by zero") :
    W p l e R s m args below meth c H locs cells slots Q (F0 m pc ls (.long b :: .long a :: rest)) := by
  intro T hT X
  obtain ⟨t, st, q⟩ := k T hT X
  exact ⟨t, X.lremZero hexec (g := F0 m pc ls (.long b :: .long a :: rest)) rfl (a := a) (rest := rest) (by rw [h0]) (by rw [hb]; exact d) t st, q⟩
theorem vx_ialdZ {D : va_G} {cl : List vw_C} {ws : va_W} {tys : List (ClassId × FieldType)} {a : Nat} (hexec : p.tables.exec = Jvm.exec) (hb : c.code = cc) (hK : va_K D cl tys s) (hP : va_P D cl ws H) (q0 t0 : Nat) {cA : ClassId} {n : Nat} {f : Nat → Int32} (ha : ws[q0]? = some (a, .inl (cA, n, .inl f))) (ht : tys[t0]? = some (cA, .int)) {i : Int32} (hout : ¬ vp_in i n) (hdg : decode cc pc = .ok (.iaload, 1))
    (k : ∀ tx : String, tx = (toString "Index " ++ toString i ++ toString " out of bounds for length " ++ toString n : String) → vx_Note p l e R s m args below meth c H locs cells slots Q (F0 m pc ls rest) "java/lang/ArrayIndexOutOfBoundsException" tx) : W p l e R s m args below meth c H locs cells slots Q (F0 m pc ls (.int i :: .ref a :: rest)) := by
  intro T hT X
  obtain ⟨t, st, q⟩ := k _ rfl T hT X
  refine ⟨t, ?_, q⟩
  have h1 := X.ialoadOut hexec (by rw [hT]; exact hP q0 _ ha) ((hK.2 t0 _ ht).1 n (fun j => .int (f j))) (j := i) (by show (i < 0 ∨ (arrV _ _ _).slots.size ≤ _); rw [arrV_size]; exact Classical.byContradiction hout) (g := F0 m pc ls (.int i :: .ref a :: rest)) rfl (rest := rest) rfl (by rw [hb]; exact hdg) t
  simp only [arrV_size] at h1
  exact h1 st
theorem vx_iastZ {D : va_G} {cl : List vw_C} {ws : va_W} {tys : List (ClassId × FieldType)} {a : Nat} (hexec : p.tables.exec = Jvm.exec) (hb : c.code = cc) (hK : va_K D cl tys s) (hP : va_P D cl ws H) (q0 t0 : Nat) {cA : ClassId} {n : Nat} {f : Nat → Int32} (ha : ws[q0]? = some (a, .inl (cA, n, .inl f))) (ht : tys[t0]? = some (cA, .int)) {i : Int32} {x : Int32} (hout : ¬ vp_in i n) (hdg : decode cc pc = .ok (.iastore, 1))
    (k : ∀ tx : String, tx = (toString "Index " ++ toString i ++ toString " out of bounds for length " ++ toString n : String) → vx_Note p l e R s m args below meth c H locs cells slots Q (F0 m pc ls rest) "java/lang/ArrayIndexOutOfBoundsException" tx) : W p l e R s m args below meth c H locs cells slots Q (F0 m pc ls (.int x :: .int i :: .ref a :: rest)) := by
  intro T hT X
  obtain ⟨t, st, q⟩ := k _ rfl T hT X
  refine ⟨t, ?_, q⟩
  have h1 := X.iastoreOut hexec (by rw [hT]; exact hP q0 _ ha) ((hK.2 t0 _ ht).1 n (fun j => .int (f j))) (j := i) (by show (i < 0 ∨ (arrV _ _ _).slots.size ≤ _); rw [arrV_size]; exact Classical.byContradiction hout) (g := F0 m pc ls (.int x :: .int i :: .ref a :: rest)) rfl (rest := rest) rfl (by rw [hb]; exact hdg) t
  simp only [arrV_size] at h1
  exact h1 st
theorem vx_baldZ {D : va_G} {cl : List vw_C} {ws : va_W} {tys : List (ClassId × FieldType)} {a : Nat} (hexec : p.tables.exec = Jvm.exec) (hb : c.code = cc) (hK : va_K D cl tys s) (hP : va_P D cl ws H) (q0 t0 : Nat) {cA : ClassId} {n : Nat} {f : Nat → Int32} (ha : ws[q0]? = some (a, .inl (cA, n, .inl f))) (ht : tys[t0]? = some (cA, .byte)) {i : Int32} (hout : ¬ vp_in i n) (hdg : decode cc pc = .ok (.baload, 1))
    (k : ∀ tx : String, tx = (toString "Index " ++ toString i ++ toString " out of bounds for length " ++ toString n : String) → vx_Note p l e R s m args below meth c H locs cells slots Q (F0 m pc ls rest) "java/lang/ArrayIndexOutOfBoundsException" tx) : W p l e R s m args below meth c H locs cells slots Q (F0 m pc ls (.int i :: .ref a :: rest)) := by
  intro T hT X
  obtain ⟨t, st, q⟩ := k _ rfl T hT X
  refine ⟨t, ?_, q⟩
  have h1 := X.baloadOut hexec (by rw [hT]; exact hP q0 _ ha) ((hK.2 t0 _ ht).1 n (fun j => .int (f j))) (j := i) (by show (i < 0 ∨ (arrV _ _ _).slots.size ≤ _); rw [arrV_size]; exact Classical.byContradiction hout) (g := F0 m pc ls (.int i :: .ref a :: rest)) rfl (rest := rest) rfl (by rw [hb]; exact hdg) t
  simp only [arrV_size] at h1
  exact h1 st
theorem vx_bastZ {D : va_G} {cl : List vw_C} {ws : va_W} {tys : List (ClassId × FieldType)} {a : Nat} (hexec : p.tables.exec = Jvm.exec) (hb : c.code = cc) (hK : va_K D cl tys s) (hP : va_P D cl ws H) (q0 t0 : Nat) {cA : ClassId} {n : Nat} {f : Nat → Int32} (ha : ws[q0]? = some (a, .inl (cA, n, .inl f))) (ht : tys[t0]? = some (cA, .byte)) {i : Int32} {x : Int32} (hout : ¬ vp_in i n) (hdg : decode cc pc = .ok (.bastore, 1))
    (k : ∀ tx : String, tx = (toString "Index " ++ toString i ++ toString " out of bounds for length " ++ toString n : String) → vx_Note p l e R s m args below meth c H locs cells slots Q (F0 m pc ls rest) "java/lang/ArrayIndexOutOfBoundsException" tx) : W p l e R s m args below meth c H locs cells slots Q (F0 m pc ls (.int x :: .int i :: .ref a :: rest)) := by
  intro T hT X
  obtain ⟨t, st, q⟩ := k _ rfl T hT X
  refine ⟨t, ?_, q⟩
  have h1 := X.bastoreOut hexec (by rw [hT]; exact hP q0 _ ha) ((hK.2 t0 _ ht).1 n (fun j => .int (f j))) (j := i) (by show (i < 0 ∨ (arrV _ _ _).slots.size ≤ _); rw [arrV_size]; exact Classical.byContradiction hout) (g := F0 m pc ls (.int x :: .int i :: .ref a :: rest)) rfl (rest := rest) rfl (by rw [hb]; exact hdg) t
  simp only [arrV_size] at h1
  exact h1 st
theorem vx_zaldZ {D : va_G} {cl : List vw_C} {ws : va_W} {tys : List (ClassId × FieldType)} {a : Nat} (hexec : p.tables.exec = Jvm.exec) (hb : c.code = cc) (hK : va_K D cl tys s) (hP : va_P D cl ws H) (q0 t0 : Nat) {cA : ClassId} {n : Nat} {f : Nat → Int32} (ha : ws[q0]? = some (a, .inl (cA, n, .inl f))) (ht : tys[t0]? = some (cA, .boolean)) {i : Int32} (hout : ¬ vp_in i n) (hdg : decode cc pc = .ok (.baload, 1))
    (k : ∀ tx : String, tx = (toString "Index " ++ toString i ++ toString " out of bounds for length " ++ toString n : String) → vx_Note p l e R s m args below meth c H locs cells slots Q (F0 m pc ls rest) "java/lang/ArrayIndexOutOfBoundsException" tx) : W p l e R s m args below meth c H locs cells slots Q (F0 m pc ls (.int i :: .ref a :: rest)) := by
  intro T hT X
  obtain ⟨t, st, q⟩ := k _ rfl T hT X
  refine ⟨t, ?_, q⟩
  have h1 := X.baloadOut hexec (by rw [hT]; exact hP q0 _ ha) ((hK.2 t0 _ ht).1 n (fun j => .int (f j))) (j := i) (by show (i < 0 ∨ (arrV _ _ _).slots.size ≤ _); rw [arrV_size]; exact Classical.byContradiction hout) (g := F0 m pc ls (.int i :: .ref a :: rest)) rfl (rest := rest) rfl (by rw [hb]; exact hdg) t
  simp only [arrV_size] at h1
  exact h1 st
theorem vx_zastZ {D : va_G} {cl : List vw_C} {ws : va_W} {tys : List (ClassId × FieldType)} {a : Nat} (hexec : p.tables.exec = Jvm.exec) (hb : c.code = cc) (hK : va_K D cl tys s) (hP : va_P D cl ws H) (q0 t0 : Nat) {cA : ClassId} {n : Nat} {f : Nat → Int32} (ha : ws[q0]? = some (a, .inl (cA, n, .inl f))) (ht : tys[t0]? = some (cA, .boolean)) {i : Int32} {x : Int32} (hout : ¬ vp_in i n) (hdg : decode cc pc = .ok (.bastore, 1))
    (k : ∀ tx : String, tx = (toString "Index " ++ toString i ++ toString " out of bounds for length " ++ toString n : String) → vx_Note p l e R s m args below meth c H locs cells slots Q (F0 m pc ls rest) "java/lang/ArrayIndexOutOfBoundsException" tx) : W p l e R s m args below meth c H locs cells slots Q (F0 m pc ls (.int x :: .int i :: .ref a :: rest)) := by
  intro T hT X
  obtain ⟨t, st, q⟩ := k _ rfl T hT X
  refine ⟨t, ?_, q⟩
  have h1 := X.bastoreOut hexec (by rw [hT]; exact hP q0 _ ha) ((hK.2 t0 _ ht).1 n (fun j => .int (f j))) (j := i) (by show (i < 0 ∨ (arrV _ _ _).slots.size ≤ _); rw [arrV_size]; exact Classical.byContradiction hout) (g := F0 m pc ls (.int x :: .int i :: .ref a :: rest)) rfl (rest := rest) rfl (by rw [hb]; exact hdg) t
  simp only [arrV_size] at h1
  exact h1 st
theorem vx_caldZ {D : va_G} {cl : List vw_C} {ws : va_W} {tys : List (ClassId × FieldType)} {a : Nat} (hexec : p.tables.exec = Jvm.exec) (hb : c.code = cc) (hK : va_K D cl tys s) (hP : va_P D cl ws H) (q0 t0 : Nat) {cA : ClassId} {n : Nat} {f : Nat → Int32} (ha : ws[q0]? = some (a, .inl (cA, n, .inl f))) (ht : tys[t0]? = some (cA, .char)) {i : Int32} (hout : ¬ vp_in i n) (hdg : decode cc pc = .ok (.caload, 1))
    (k : ∀ tx : String, tx = (toString "Index " ++ toString i ++ toString " out of bounds for length " ++ toString n : String) → vx_Note p l e R s m args below meth c H locs cells slots Q (F0 m pc ls rest) "java/lang/ArrayIndexOutOfBoundsException" tx) : W p l e R s m args below meth c H locs cells slots Q (F0 m pc ls (.int i :: .ref a :: rest)) := by
  intro T hT X
  obtain ⟨t, st, q⟩ := k _ rfl T hT X
  refine ⟨t, ?_, q⟩
  have h1 := X.caloadOut hexec (by rw [hT]; exact hP q0 _ ha) ((hK.2 t0 _ ht).1 n (fun j => .int (f j))) (j := i) (by show (i < 0 ∨ (arrV _ _ _).slots.size ≤ _); rw [arrV_size]; exact Classical.byContradiction hout) (g := F0 m pc ls (.int i :: .ref a :: rest)) rfl (rest := rest) rfl (by rw [hb]; exact hdg) t
  simp only [arrV_size] at h1
  exact h1 st
theorem vx_castZ {D : va_G} {cl : List vw_C} {ws : va_W} {tys : List (ClassId × FieldType)} {a : Nat} (hexec : p.tables.exec = Jvm.exec) (hb : c.code = cc) (hK : va_K D cl tys s) (hP : va_P D cl ws H) (q0 t0 : Nat) {cA : ClassId} {n : Nat} {f : Nat → Int32} (ha : ws[q0]? = some (a, .inl (cA, n, .inl f))) (ht : tys[t0]? = some (cA, .char)) {i : Int32} {x : Int32} (hout : ¬ vp_in i n) (hdg : decode cc pc = .ok (.castore, 1))
    (k : ∀ tx : String, tx = (toString "Index " ++ toString i ++ toString " out of bounds for length " ++ toString n : String) → vx_Note p l e R s m args below meth c H locs cells slots Q (F0 m pc ls rest) "java/lang/ArrayIndexOutOfBoundsException" tx) : W p l e R s m args below meth c H locs cells slots Q (F0 m pc ls (.int x :: .int i :: .ref a :: rest)) := by
  intro T hT X
  obtain ⟨t, st, q⟩ := k _ rfl T hT X
  refine ⟨t, ?_, q⟩
  have h1 := X.castoreOut hexec (by rw [hT]; exact hP q0 _ ha) ((hK.2 t0 _ ht).1 n (fun j => .int (f j))) (j := i) (by show (i < 0 ∨ (arrV _ _ _).slots.size ≤ _); rw [arrV_size]; exact Classical.byContradiction hout) (g := F0 m pc ls (.int x :: .int i :: .ref a :: rest)) rfl (rest := rest) rfl (by rw [hb]; exact hdg) t
  simp only [arrV_size] at h1
  exact h1 st
theorem vx_saldZ {D : va_G} {cl : List vw_C} {ws : va_W} {tys : List (ClassId × FieldType)} {a : Nat} (hexec : p.tables.exec = Jvm.exec) (hb : c.code = cc) (hK : va_K D cl tys s) (hP : va_P D cl ws H) (q0 t0 : Nat) {cA : ClassId} {n : Nat} {f : Nat → Int32} (ha : ws[q0]? = some (a, .inl (cA, n, .inl f))) (ht : tys[t0]? = some (cA, .short)) {i : Int32} (hout : ¬ vp_in i n) (hdg : decode cc pc = .ok (.saload, 1))
    (k : ∀ tx : String, tx = (toString "Index " ++ toString i ++ toString " out of bounds for length " ++ toString n : String) → vx_Note p l e R s m args below meth c H locs cells slots Q (F0 m pc ls rest) "java/lang/ArrayIndexOutOfBoundsException" tx) : W p l e R s m args below meth c H locs cells slots Q (F0 m pc ls (.int i :: .ref a :: rest)) := by
  intro T hT X
  obtain ⟨t, st, q⟩ := k _ rfl T hT X
  refine ⟨t, ?_, q⟩
  have h1 := X.saloadOut hexec (by rw [hT]; exact hP q0 _ ha) ((hK.2 t0 _ ht).1 n (fun j => .int (f j))) (j := i) (by show (i < 0 ∨ (arrV _ _ _).slots.size ≤ _); rw [arrV_size]; exact Classical.byContradiction hout) (g := F0 m pc ls (.int i :: .ref a :: rest)) rfl (rest := rest) rfl (by rw [hb]; exact hdg) t
  simp only [arrV_size] at h1
  exact h1 st
theorem vx_sastZ {D : va_G} {cl : List vw_C} {ws : va_W} {tys : List (ClassId × FieldType)} {a : Nat} (hexec : p.tables.exec = Jvm.exec) (hb : c.code = cc) (hK : va_K D cl tys s) (hP : va_P D cl ws H) (q0 t0 : Nat) {cA : ClassId} {n : Nat} {f : Nat → Int32} (ha : ws[q0]? = some (a, .inl (cA, n, .inl f))) (ht : tys[t0]? = some (cA, .short)) {i : Int32} {x : Int32} (hout : ¬ vp_in i n) (hdg : decode cc pc = .ok (.sastore, 1))
    (k : ∀ tx : String, tx = (toString "Index " ++ toString i ++ toString " out of bounds for length " ++ toString n : String) → vx_Note p l e R s m args below meth c H locs cells slots Q (F0 m pc ls rest) "java/lang/ArrayIndexOutOfBoundsException" tx) : W p l e R s m args below meth c H locs cells slots Q (F0 m pc ls (.int x :: .int i :: .ref a :: rest)) := by
  intro T hT X
  obtain ⟨t, st, q⟩ := k _ rfl T hT X
  refine ⟨t, ?_, q⟩
  have h1 := X.sastoreOut hexec (by rw [hT]; exact hP q0 _ ha) ((hK.2 t0 _ ht).1 n (fun j => .int (f j))) (j := i) (by show (i < 0 ∨ (arrV _ _ _).slots.size ≤ _); rw [arrV_size]; exact Classical.byContradiction hout) (g := F0 m pc ls (.int x :: .int i :: .ref a :: rest)) rfl (rest := rest) rfl (by rw [hb]; exact hdg) t
  simp only [arrV_size] at h1
  exact h1 st
theorem vx_laldZ {D : va_G} {cl : List vw_C} {ws : va_W} {tys : List (ClassId × FieldType)} {a : Nat} (hexec : p.tables.exec = Jvm.exec) (hb : c.code = cc) (hK : va_K D cl tys s) (hP : va_P D cl ws H) (q0 t0 : Nat) {cA : ClassId} {n : Nat} {f : Nat → Int64} (ha : ws[q0]? = some (a, .inl (cA, n, .inr (.inl f)))) (ht : tys[t0]? = some (cA, .long)) {i : Int32} (hout : ¬ vp_in i n) (hdg : decode cc pc = .ok (.laload, 1))
    (k : ∀ tx : String, tx = (toString "Index " ++ toString i ++ toString " out of bounds for length " ++ toString n : String) → vx_Note p l e R s m args below meth c H locs cells slots Q (F0 m pc ls rest) "java/lang/ArrayIndexOutOfBoundsException" tx) : W p l e R s m args below meth c H locs cells slots Q (F0 m pc ls (.int i :: .ref a :: rest)) := by
  intro T hT X
  obtain ⟨t, st, q⟩ := k _ rfl T hT X
  refine ⟨t, ?_, q⟩
  have h1 := X.laloadOut hexec (by rw [hT]; exact hP q0 _ ha) ((hK.2 t0 _ ht).1 n (fun j => .long (f j))) (j := i) (by show (i < 0 ∨ (arrV _ _ _).slots.size ≤ _); rw [arrV_size]; exact Classical.byContradiction hout) (g := F0 m pc ls (.int i :: .ref a :: rest)) rfl (rest := rest) rfl (by rw [hb]; exact hdg) t
  simp only [arrV_size] at h1
  exact h1 st
theorem vx_lastZ {D : va_G} {cl : List vw_C} {ws : va_W} {tys : List (ClassId × FieldType)} {a : Nat} (hexec : p.tables.exec = Jvm.exec) (hb : c.code = cc) (hK : va_K D cl tys s) (hP : va_P D cl ws H) (q0 t0 : Nat) {cA : ClassId} {n : Nat} {f : Nat → Int64} (ha : ws[q0]? = some (a, .inl (cA, n, .inr (.inl f)))) (ht : tys[t0]? = some (cA, .long)) {i : Int32} {x : Int64} (hout : ¬ vp_in i n) (hdg : decode cc pc = .ok (.lastore, 1))
    (k : ∀ tx : String, tx = (toString "Index " ++ toString i ++ toString " out of bounds for length " ++ toString n : String) → vx_Note p l e R s m args below meth c H locs cells slots Q (F0 m pc ls rest) "java/lang/ArrayIndexOutOfBoundsException" tx) : W p l e R s m args below meth c H locs cells slots Q (F0 m pc ls (.long x :: .int i :: .ref a :: rest)) := by
  intro T hT X
  obtain ⟨t, st, q⟩ := k _ rfl T hT X
  refine ⟨t, ?_, q⟩
  have h1 := X.lastoreOut hexec (by rw [hT]; exact hP q0 _ ha) ((hK.2 t0 _ ht).1 n (fun j => .long (f j))) (j := i) (by show (i < 0 ∨ (arrV _ _ _).slots.size ≤ _); rw [arrV_size]; exact Classical.byContradiction hout) (g := F0 m pc ls (.long x :: .int i :: .ref a :: rest)) rfl (rest := rest) rfl (by rw [hb]; exact hdg) t
  simp only [arrV_size] at h1
  exact h1 st
theorem vx_faldZ {D : va_G} {cl : List vw_C} {ws : va_W} {tys : List (ClassId × FieldType)} {a : Nat} (hexec : p.tables.exec = Jvm.exec) (hb : c.code = cc) (hK : va_K D cl tys s) (hP : va_P D cl ws H) (q0 t0 : Nat) {cA : ClassId} {n : Nat} {f : Nat → UInt32} (ha : ws[q0]? = some (a, .inl (cA, n, .inr (.inr (.inl f))))) (ht : tys[t0]? = some (cA, .float)) {i : Int32} (hout : ¬ vp_in i n) (hdg : decode cc pc = .ok (.faload, 1))
    (k : ∀ tx : String, tx = (toString "Index " ++ toString i ++ toString " out of bounds for length " ++ toString n : String) → vx_Note p l e R s m args below meth c H locs cells slots Q (F0 m pc ls rest) "java/lang/ArrayIndexOutOfBoundsException" tx) : W p l e R s m args below meth c H locs cells slots Q (F0 m pc ls (.int i :: .ref a :: rest)) := by
  intro T hT X
  obtain ⟨t, st, q⟩ := k _ rfl T hT X
  refine ⟨t, ?_, q⟩
  have h1 := X.faloadOut hexec (by rw [hT]; exact hP q0 _ ha) ((hK.2 t0 _ ht).1 n (fun j => .float (f j))) (j := i) (by show (i < 0 ∨ (arrV _ _ _).slots.size ≤ _); rw [arrV_size]; exact Classical.byContradiction hout) (g := F0 m pc ls (.int i :: .ref a :: rest)) rfl (rest := rest) rfl (by rw [hb]; exact hdg) t
  simp only [arrV_size] at h1
  exact h1 st
theorem vx_fastZ {D : va_G} {cl : List vw_C} {ws : va_W} {tys : List (ClassId × FieldType)} {a : Nat} (hexec : p.tables.exec = Jvm.exec) (hb : c.code = cc) (hK : va_K D cl tys s) (hP : va_P D cl ws H) (q0 t0 : Nat) {cA : ClassId} {n : Nat} {f : Nat → UInt32} (ha : ws[q0]? = some (a, .inl (cA, n, .inr (.inr (.inl f))))) (ht : tys[t0]? = some (cA, .float)) {i : Int32} {x : UInt32} (hout : ¬ vp_in i n) (hdg : decode cc pc = .ok (.fastore, 1))
    (k : ∀ tx : String, tx = (toString "Index " ++ toString i ++ toString " out of bounds for length " ++ toString n : String) → vx_Note p l e R s m args below meth c H locs cells slots Q (F0 m pc ls rest) "java/lang/ArrayIndexOutOfBoundsException" tx) : W p l e R s m args below meth c H locs cells slots Q (F0 m pc ls (.float x :: .int i :: .ref a :: rest)) := by
  intro T hT X
  obtain ⟨t, st, q⟩ := k _ rfl T hT X
  refine ⟨t, ?_, q⟩
  have h1 := X.fastoreOut hexec (by rw [hT]; exact hP q0 _ ha) ((hK.2 t0 _ ht).1 n (fun j => .float (f j))) (j := i) (by show (i < 0 ∨ (arrV _ _ _).slots.size ≤ _); rw [arrV_size]; exact Classical.byContradiction hout) (g := F0 m pc ls (.float x :: .int i :: .ref a :: rest)) rfl (rest := rest) rfl (by rw [hb]; exact hdg) t
  simp only [arrV_size] at h1
  exact h1 st
theorem vx_daldZ {D : va_G} {cl : List vw_C} {ws : va_W} {tys : List (ClassId × FieldType)} {a : Nat} (hexec : p.tables.exec = Jvm.exec) (hb : c.code = cc) (hK : va_K D cl tys s) (hP : va_P D cl ws H) (q0 t0 : Nat) {cA : ClassId} {n : Nat} {f : Nat → UInt64} (ha : ws[q0]? = some (a, .inl (cA, n, .inr (.inr (.inr (.inl f)))))) (ht : tys[t0]? = some (cA, .double)) {i : Int32} (hout : ¬ vp_in i n) (hdg : decode cc pc = .ok (.daload, 1))
    (k : ∀ tx : String, tx = (toString "Index " ++ toString i ++ toString " out of bounds for length " ++ toString n : String) → vx_Note p l e R s m args below meth c H locs cells slots Q (F0 m pc ls rest) "java/lang/ArrayIndexOutOfBoundsException" tx) : W p l e R s m args below meth c H locs cells slots Q (F0 m pc ls (.int i :: .ref a :: rest)) := by
  intro T hT X
  obtain ⟨t, st, q⟩ := k _ rfl T hT X
  refine ⟨t, ?_, q⟩
  have h1 := X.daloadOut hexec (by rw [hT]; exact hP q0 _ ha) ((hK.2 t0 _ ht).1 n (fun j => .double (f j))) (j := i) (by show (i < 0 ∨ (arrV _ _ _).slots.size ≤ _); rw [arrV_size]; exact Classical.byContradiction hout) (g := F0 m pc ls (.int i :: .ref a :: rest)) rfl (rest := rest) rfl (by rw [hb]; exact hdg) t
  simp only [arrV_size] at h1
  exact h1 st
theorem vx_dastZ {D : va_G} {cl : List vw_C} {ws : va_W} {tys : List (ClassId × FieldType)} {a : Nat} (hexec : p.tables.exec = Jvm.exec) (hb : c.code = cc) (hK : va_K D cl tys s) (hP : va_P D cl ws H) (q0 t0 : Nat) {cA : ClassId} {n : Nat} {f : Nat → UInt64} (ha : ws[q0]? = some (a, .inl (cA, n, .inr (.inr (.inr (.inl f)))))) (ht : tys[t0]? = some (cA, .double)) {i : Int32} {x : UInt64} (hout : ¬ vp_in i n) (hdg : decode cc pc = .ok (.dastore, 1))
    (k : ∀ tx : String, tx = (toString "Index " ++ toString i ++ toString " out of bounds for length " ++ toString n : String) → vx_Note p l e R s m args below meth c H locs cells slots Q (F0 m pc ls rest) "java/lang/ArrayIndexOutOfBoundsException" tx) : W p l e R s m args below meth c H locs cells slots Q (F0 m pc ls (.double x :: .int i :: .ref a :: rest)) := by
  intro T hT X
  obtain ⟨t, st, q⟩ := k _ rfl T hT X
  refine ⟨t, ?_, q⟩
  have h1 := X.dastoreOut hexec (by rw [hT]; exact hP q0 _ ha) ((hK.2 t0 _ ht).1 n (fun j => .double (f j))) (j := i) (by show (i < 0 ∨ (arrV _ _ _).slots.size ≤ _); rw [arrV_size]; exact Classical.byContradiction hout) (g := F0 m pc ls (.double x :: .int i :: .ref a :: rest)) rfl (rest := rest) rfl (by rw [hb]; exact hdg) t
  simp only [arrV_size] at h1
  exact h1 st
theorem vx_arraylengthN (hexec : p.tables.exec = Jvm.exec) (hb : c.code = cc) (hdg : decode cc pc = .ok (.arraylength, 1)) (k : vx_NoteN p l e R s m args below meth c H locs cells slots Q (F0 m pc ls rest)) : W p l e R s m args below meth c H locs cells slots Q (F0 m pc ls (.null :: rest)) := by
  intro T hT X
  obtain ⟨t, st, q⟩ := k T hT X
  exact ⟨t, X.arraylengthNull hexec (g := F0 m pc ls (.null :: rest)) rfl (rest := rest) rfl (by rw [hb]; exact hdg) t st, q⟩
theorem vx_ialoadN (hexec : p.tables.exec = Jvm.exec) (hb : c.code = cc) {i : Int32} (hdg : decode cc pc = .ok (.iaload, 1)) (k : vx_NoteN p l e R s m args below meth c H locs cells slots Q (F0 m pc ls rest)) : W p l e R s m args below meth c H locs cells slots Q (F0 m pc ls (.int i :: .null :: rest)) := by
  intro T hT X
  obtain ⟨t, st, q⟩ := k T hT X
  exact ⟨t, X.ialoadNull hexec (g := F0 m pc ls (.int i :: .null :: rest)) rfl (rest := rest) rfl (by rw [hb]; exact hdg) t st, q⟩
theorem vx_laloadN (hexec : p.tables.exec = Jvm.exec) (hb : c.code = cc) {i : Int32} (hdg : decode cc pc = .ok (.laload, 1)) (k : vx_NoteN p l e R s m args below meth c H locs cells slots Q (F0 m pc ls rest)) : W p l e R s m args below meth c H locs cells slots Q (F0 m pc ls (.int i :: .null :: rest)) := by
  intro T hT X
  obtain ⟨t, st, q⟩ := k T hT X
  exact ⟨t, X.laloadNull hexec (g := F0 m pc ls (.int i :: .null :: rest)) rfl (rest := rest) rfl (by rw [hb]; exact hdg) t st, q⟩
theorem vx_faloadN (hexec : p.tables.exec = Jvm.exec) (hb : c.code = cc) {i : Int32} (hdg : decode cc pc = .ok (.faload, 1)) (k : vx_NoteN p l e R s m args below meth c H locs cells slots Q (F0 m pc ls rest)) : W p l e R s m args below meth c H locs cells slots Q (F0 m pc ls (.int i :: .null :: rest)) := by
  intro T hT X
  obtain ⟨t, st, q⟩ := k T hT X
  exact ⟨t, X.faloadNull hexec (g := F0 m pc ls (.int i :: .null :: rest)) rfl (rest := rest) rfl (by rw [hb]; exact hdg) t st, q⟩
theorem vx_daloadN (hexec : p.tables.exec = Jvm.exec) (hb : c.code = cc) {i : Int32} (hdg : decode cc pc = .ok (.daload, 1)) (k : vx_NoteN p l e R s m args below meth c H locs cells slots Q (F0 m pc ls rest)) : W p l e R s m args below meth c H locs cells slots Q (F0 m pc ls (.int i :: .null :: rest)) := by
  intro T hT X
  obtain ⟨t, st, q⟩ := k T hT X
  exact ⟨t, X.daloadNull hexec (g := F0 m pc ls (.int i :: .null :: rest)) rfl (rest := rest) rfl (by rw [hb]; exact hdg) t st, q⟩
theorem vx_aaloadN (hexec : p.tables.exec = Jvm.exec) (hb : c.code = cc) {i : Int32} (hdg : decode cc pc = .ok (.aaload, 1)) (k : vx_NoteN p l e R s m args below meth c H locs cells slots Q (F0 m pc ls rest)) : W p l e R s m args below meth c H locs cells slots Q (F0 m pc ls (.int i :: .null :: rest)) := by
  intro T hT X
  obtain ⟨t, st, q⟩ := k T hT X
  exact ⟨t, X.aaloadNull hexec (g := F0 m pc ls (.int i :: .null :: rest)) rfl (rest := rest) rfl (by rw [hb]; exact hdg) t st, q⟩
theorem vx_baloadN (hexec : p.tables.exec = Jvm.exec) (hb : c.code = cc) {i : Int32} (hdg : decode cc pc = .ok (.baload, 1)) (k : vx_NoteN p l e R s m args below meth c H locs cells slots Q (F0 m pc ls rest)) : W p l e R s m args below meth c H locs cells slots Q (F0 m pc ls (.int i :: .null :: rest)) := by
  intro T hT X
  obtain ⟨t, st, q⟩ := k T hT X
  exact ⟨t, X.baloadNull hexec (g := F0 m pc ls (.int i :: .null :: rest)) rfl (rest := rest) rfl (by rw [hb]; exact hdg) t st, q⟩
theorem vx_caloadN (hexec : p.tables.exec = Jvm.exec) (hb : c.code = cc) {i : Int32} (hdg : decode cc pc = .ok (.caload, 1)) (k : vx_NoteN p l e R s m args below meth c H locs cells slots Q (F0 m pc ls rest)) : W p l e R s m args below meth c H locs cells slots Q (F0 m pc ls (.int i :: .null :: rest)) := by
  intro T hT X
  obtain ⟨t, st, q⟩ := k T hT X
  exact ⟨t, X.caloadNull hexec (g := F0 m pc ls (.int i :: .null :: rest)) rfl (rest := rest) rfl (by rw [hb]; exact hdg) t st, q⟩
theorem vx_saloadN (hexec : p.tables.exec = Jvm.exec) (hb : c.code = cc) {i : Int32} (hdg : decode cc pc = .ok (.saload, 1)) (k : vx_NoteN p l e R s m args below meth c H locs cells slots Q (F0 m pc ls rest)) : W p l e R s m args below meth c H locs cells slots Q (F0 m pc ls (.int i :: .null :: rest)) := by
  intro T hT X
  obtain ⟨t, st, q⟩ := k T hT X
  exact ⟨t, X.saloadNull hexec (g := F0 m pc ls (.int i :: .null :: rest)) rfl (rest := rest) rfl (by rw [hb]; exact hdg) t st, q⟩
theorem vx_iastoreN (hexec : p.tables.exec = Jvm.exec) (hb : c.code = cc) {x : Int32} {i : Int32} (hdg : decode cc pc = .ok (.iastore, 1)) (k : vx_NoteN p l e R s m args below meth c H locs cells slots Q (F0 m pc ls rest)) : W p l e R s m args below meth c H locs cells slots Q (F0 m pc ls (.int x :: .int i :: .null :: rest)) := by
  intro T hT X
  obtain ⟨t, st, q⟩ := k T hT X
  exact ⟨t, X.iastoreNull hexec (g := F0 m pc ls (.int x :: .int i :: .null :: rest)) rfl (rest := rest) rfl (by rw [hb]; exact hdg) t st, q⟩
theorem vx_lastoreN (hexec : p.tables.exec = Jvm.exec) (hb : c.code = cc) {x : Int64} {i : Int32} (hdg : decode cc pc = .ok (.lastore, 1)) (k : vx_NoteN p l e R s m args below meth c H locs cells slots Q (F0 m pc ls rest)) : W p l e R s m args below meth c H locs cells slots Q (F0 m pc ls (.long x :: .int i :: .null :: rest)) := by
  intro T hT X
  obtain ⟨t, st, q⟩ := k T hT X
  exact ⟨t, X.lastoreNull hexec (g := F0 m pc ls (.long x :: .int i :: .null :: rest)) rfl (rest := rest) rfl (by rw [hb]; exact hdg) t st, q⟩
theorem vx_fastoreN (hexec : p.tables.exec = Jvm.exec) (hb : c.code = cc) {x : UInt32} {i : Int32} (hdg : decode cc pc = .ok (.fastore, 1)) (k : vx_NoteN p l e R s m args below meth c H locs cells slots Q (F0 m pc ls rest)) : W p l e R s m args below meth c H locs cells slots Q (F0 m pc ls (.float x :: .int i :: .null :: rest)) := by
  intro T hT X
  obtain ⟨t, st, q⟩ := k T hT X
  exact ⟨t, X.fastoreNull hexec (g := F0 m pc ls (.float x :: .int i :: .null :: rest)) rfl (rest := rest) rfl (by rw [hb]; exact hdg) t st, q⟩
theorem vx_dastoreN (hexec : p.tables.exec = Jvm.exec) (hb : c.code = cc) {x : UInt64} {i : Int32} (hdg : decode cc pc = .ok (.dastore, 1)) (k : vx_NoteN p l e R s m args below meth c H locs cells slots Q (F0 m pc ls rest)) : W p l e R s m args below meth c H locs cells slots Q (F0 m pc ls (.double x :: .int i :: .null :: rest)) := by
  intro T hT X
  obtain ⟨t, st, q⟩ := k T hT X
  exact ⟨t, X.dastoreNull hexec (g := F0 m pc ls (.double x :: .int i :: .null :: rest)) rfl (rest := rest) rfl (by rw [hb]; exact hdg) t st, q⟩
theorem vx_bastoreN (hexec : p.tables.exec = Jvm.exec) (hb : c.code = cc) {x : Int32} {i : Int32} (hdg : decode cc pc = .ok (.bastore, 1)) (k : vx_NoteN p l e R s m args below meth c H locs cells slots Q (F0 m pc ls rest)) : W p l e R s m args below meth c H locs cells slots Q (F0 m pc ls (.int x :: .int i :: .null :: rest)) := by
  intro T hT X
  obtain ⟨t, st, q⟩ := k T hT X
  exact ⟨t, X.bastoreNull hexec (g := F0 m pc ls (.int x :: .int i :: .null :: rest)) rfl (rest := rest) rfl (by rw [hb]; exact hdg) t st, q⟩
theorem vx_castoreN (hexec : p.tables.exec = Jvm.exec) (hb : c.code = cc) {x : Int32} {i : Int32} (hdg : decode cc pc = .ok (.castore, 1)) (k : vx_NoteN p l e R s m args below meth c H locs cells slots Q (F0 m pc ls rest)) : W p l e R s m args below meth c H locs cells slots Q (F0 m pc ls (.int x :: .int i :: .null :: rest)) := by
  intro T hT X
  obtain ⟨t, st, q⟩ := k T hT X
  exact ⟨t, X.castoreNull hexec (g := F0 m pc ls (.int x :: .int i :: .null :: rest)) rfl (rest := rest) rfl (by rw [hb]; exact hdg) t st, q⟩
theorem vx_sastoreN (hexec : p.tables.exec = Jvm.exec) (hb : c.code = cc) {x : Int32} {i : Int32} (hdg : decode cc pc = .ok (.sastore, 1)) (k : vx_NoteN p l e R s m args below meth c H locs cells slots Q (F0 m pc ls rest)) : W p l e R s m args below meth c H locs cells slots Q (F0 m pc ls (.int x :: .int i :: .null :: rest)) := by
  intro T hT X
  obtain ⟨t, st, q⟩ := k T hT X
  exact ⟨t, X.sastoreNull hexec (g := F0 m pc ls (.int x :: .int i :: .null :: rest)) rfl (rest := rest) rfl (by rw [hb]; exact hdg) t st, q⟩
theorem vx_invokeN {own C : String} {index maxL : Nat} {y : MethodName} {bytes : ByteArray} {ret : Option FieldType} (hexec : p.tables.exec = Jvm.exec) (hb : c.code = cc) (hown : s.vm.findClass own = some m.cls) (hlink : (Cond.methodLink own index y).before args s = true) (hinst : (Cond.instanceMethod y).before args s = true) (hcode : (Cond.code y bytes maxL ret).before args s = true) (hsel : (Cond.selects C y y).before args s = true)
    (hx : y.cls ≠ "java/lang/invoke/MethodHandle" ∧ y.cls ≠ "java/lang/invoke/VarHandle") {As : List Value} (hlen : (parseMethodDescriptor y.desc).map (fun d => d.parameters.length) = some As.length) (hdg : decode cc pc = .ok (.invokevirtual index, 3))
    (k : vx_NoteN p l e R s m args below meth c H locs cells slots Q (F0 m pc ls rest)) {st0 : List Value} (hst : st0 = As.reverse ++ .null :: rest) : W p l e R s m args below meth c H locs cells slots Q (F0 m pc ls st0) := by
  intro T hT X
  obtain ⟨r0, r, hn, hrm, hstR, hsigR⟩ := va_Decl.of hinst hcode
  obtain ⟨c2, r2, m2, q1, q2, q3, q4, kP, hkP, hkPi⟩ := Cond.selects_spec hsel
  cases hn.symm.trans q3
  have hl9 : As.length = r.sig.parameters.length := by
    rw [hsigR] at hlen
    exact (Option.some.inj hlen).symm
  obtain ⟨vm', X1, st1⟩ := X.invokevirtualNull hexec hown hlink hn hrm hstR hkP hkPi hx (g := F0 m pc ls st0) rfl (argsL := As) (rest := rest) hl9 hst (by rw [hb]; exact hdg)
  obtain ⟨t, st, q⟩ := k (T.setVm vm') hT X1
  exact ⟨t, st1 t st, q⟩
theorem vx_newarrayZ {atype : ArrayType} (hexec : p.tables.exec = Jvm.exec) (hb : c.code = cc) {n : Int32} (h0 : n < 0) (hdg : decode cc pc = .ok (.newarray atype, 2)) (k : ∀ tx : String, tx = toString n → vx_Note p l e R s m args below meth c H locs cells slots Q (F0 m pc ls rest) "java/lang/NegativeArraySizeException" tx) : W p l e R s m args below meth c H locs cells slots Q (F0 m pc ls (.int n :: rest)) := by
  intro T hT X
  obtain ⟨t, st, q⟩ := k _ rfl T hT X
  exact ⟨t, X.newarrayNegative hexec (g := F0 m pc ls (.int n :: rest)) rfl h0 (rest := rest) rfl (by rw [hb]; exact hdg) t st, q⟩
end
end VXM
/-! ===== END ===== -/
/-! ===== BEGIN an exception as an object: made, kept, thrown later (no traces kept) ===== -/
section VXK
variable {p : Program} {l : Launch} {e : Env} {R : Room} {s : State} {m₀ : MethodId} {args : Array Value} {below : List Frame} {meth : Method} {c : Code} {W : State} {locs : List Loc} {cells slots : Nat}
set_option maxHeartbeats 1000000 in
theorem vx_ctorMadeS (X : Stand p l e R s m₀ args below meth c W locs cells slots) (hexec : p.tables.exec = Jvm.exec) (htr : e.platform.stackTraces = false) {own cls : String} {names : List String} {ic : Nat}
    (hown : s.vm.findClass own = some m₀.cls) (hcls : Bundle.fit cls = true) (hnames : ∀ n ∈ names, Bundle.fit n = true)
    (h : ∀ a ∈ Bundle.ownAtoms own ic cls names, a.before args s = true)
    (hlocs : ∀ x ∈ locs, ∀ cell, s.heap[x.base]? = some cell → cell.vm.isStatics = false)
    {a : Addr} {cX : ClassId} {kX : Class} (hfoundX : s.vm.findClass cls = some cX) (hkX : s.vm.classes[cX]? = some kX) (hcell : W.heap[a]? = some (freshCell cX kX)) (hnew : s.heap.size ≤ a)
    {msg : Value} (hmsg : msg.isRef = true)
    {g : JFrame} (hg : g.method = m₀) (hsize : g.locals.size = c.maxLocals) {rest : List Value} (hstack : g.stack = msg :: .ref a :: .ref a :: rest)
    (hd6 : decode c.code g.pc = .ok (.invokespecial ic, 3))
    (hRframes : names.length + 3 < R.frames) (hRlocals : 2 * g.monitorRoom + ((Value.ref a :: rest).map fun v => v.category).sum + (13 * (names.length + 1) + 42) ≤ R.locals) :
    ∃ (V : State) (ce : Cell) (L : List Loc), Stand p l e R s m₀ args below meth c (V.setCell a ce) (locs ++ L) cells slots ∧ (∀ y ∈ L, y.base = a) ∧ a < V.heap.size ∧ ce.cls = cX ∧ ce.vm = .none ∧
      ∀ target, Steps p.tables e below ((V.setCell a ce).setTop { g with stack := .ref a :: rest, pc := g.pc + 3 }) target → Steps p.tables e below (W.setTop g) target := by
  have howns : e.platform.frameOwnsMonitors = true := by rw [X.admits.platform]
  have hfin : e.platform.finalization = false := by rw [X.admits.platform]
  have hpl : e.platform.magicAccessors = ({} : Platform).magicAccessors := by rw [X.admits.platform]
  have a' : ∀ x, x ∈ Bundle.ownAtoms own ic cls names → x.holds args s none s [] = true := fun x hx => h x hx
  obtain ⟨T, Z0, L, -, Y⟩ := ThrowableC.of_atoms (args := args) howns hfin hpl (fun x hx => h x (by simp [Bundle.ownAtoms, hx]))
  obtain ⟨Z, M, LZ, LM, hnZ⟩ := Init0T.ofS_atoms (args := args) hpl L Y (fun x hx => h x (by simp [Bundle.ownAtoms, hx]))
  obtain ⟨P1, Ps, hlen, L1, hL, hP1m, hlink1, hlink⟩ := Bundle.chainS (args := args) hpl hnZ names cls hcls hnames (fun x hx => h x (by simp [Bundle.ownAtoms, hx]))
  have hfound : s.vm.findClass cls = some P1.m.cls := findClass_of_methodNamed hP1m
  cases Option.some.inj (hfoundX.symm.trans hfound)
  obtain ⟨c1, kX', hc1, hk, hord, -, -, hn6⟩ := Cond.instantiable_spec (a' (.instantiable cls 6) (by simp [Bundle.ownAtoms]))
  cases Option.some.inj (hc1.symm.trans hfound)
  cases Option.some.inj (hkX.symm.trans hk)
  have hsel0 : selectMethod e.platform s.vm P1.m.cls T.fill0 = .method T.fill0 := by
    obtain ⟨c2, r2, m2, q1, q2, q3, q4, -⟩ := Cond.selects_spec (a' (.selects cls Bundle.tFill0 Bundle.tFill0) (by simp [Bundle.ownAtoms]))
    cases Option.some.inj (q1.symm.trans hfound)
    cases Option.some.inj (q2.symm.trans (State.methodFound?_of_named Y.fill0 (by decide)))
    cases Option.some.inj (q3.symm.trans Y.fill0)
    rw [Launch.admits_selectMethod X.admits]; exact q4
  have hselF : selectMethod e.platform s.vm P1.m.cls T.fill = .method T.fill := by
    obtain ⟨c2, r2, m2, q1, q2, q3, q4, -⟩ := Cond.selects_spec (a' (.selects cls Bundle.tFill Bundle.tFill) (by simp [Bundle.ownAtoms]))
    cases Option.some.inj (q1.symm.trans hfound)
    cases Option.some.inj (q2.symm.trans (State.methodFound?_of_named Y.fill (by decide)))
    cases Option.some.inj (q3.symm.trans Y.fill)
    rw [Launch.admits_selectMethod X.admits]; exact q4
  obtain ⟨cellS0, hcS0, hiss⟩ := Y.statics
  obtain ⟨u0, hu0⟩ := Cond.staticRefV Y.unassigned L.unassignedStatic L.statics hcS0 hiss (a' (.isRef (.static Bundle.tN "UNASSIGNED_STACK" Bundle.steD)) (by simp [Bundle.ownAtoms]))
  obtain ⟨sen, hsen⟩ := Cond.staticRefV Y.sentinel L.sentinelStatic L.statics hcS0 hiss (a' (.isRef (.static Bundle.tN "SUPPRESSED_SENTINEL" Bundle.listD)) (by simp [Bundle.ownAtoms]))
  obtain ⟨ci198, i198, fB, hk198, hg198, ha198, hsB, -, hnB, htB, hffB⟩ := Cond.ownField (t := .object "java/lang/Object") Y.found L.cls (by decide +kernel) (a' (.fieldLink Bundle.tN 198 Bundle.tN "backtrace" "Ljava/lang/Object;") (by simp [Bundle.ownAtoms])) (a' (.lays Bundle.tN Bundle.tN "backtrace" "Ljava/lang/Object;") (by simp [Bundle.ownAtoms])) e.platform hpl
  obtain ⟨cellS, hcS', heS, -, hkeep⟩ := X.same.2.2.2.2.2 T.aS cellS0 hcS0
  have hcellS : W.heap[T.aS]? = some cellS := hcS'
  have hout' : ∀ i, (⟨T.aS, i⟩ : Loc) ∉ locs := fun i hmem => by
    have := hlocs _ hmem cellS0 hcS0
    rw [hiss] at this; cases this
  have hknownS : cellS.vm ≠ .unknown := by
    rw [heS]; intro hu
    rw [show cellS0.vm = .unknown from hu] at hiss
    cases hiss
  have hneS : T.aS ≠ a := Nat.ne_of_lt (Nat.lt_of_lt_of_le (Array.getElem?_eq_some_iff.mp hcS0).1 hnew)
  obtain ⟨iM, hffM⟩ := Y.msg
  obtain ⟨tyC, dC, hdC, hdnC⟩ := Cond.laysAt hfound hk Y.cause (a' (.lays cls Bundle.tN "cause" "Ljava/lang/Throwable;") (by simp [Bundle.ownAtoms]))
  obtain ⟨tyS, dS, hdS, hdnS⟩ := Cond.laysAt hfound hk Y.stack (a' (.lays cls Bundle.tN "stackTrace" Bundle.steD) (by simp [Bundle.ownAtoms]))
  obtain ⟨tyP, dP, hdP, hdnP⟩ := Cond.laysAt hfound hk Y.supp (a' (.lays cls Bundle.tN "suppressedExceptions" Bundle.listD) (by simp [Bundle.ownAtoms]))
  obtain ⟨tyM, dM, hdM, hdnM⟩ := Cond.laysAt hfound hk hffM (a' (.lays cls Bundle.tN "detailMessage" "Ljava/lang/String;") (by simp [Bundle.ownAtoms]))
  obtain ⟨tyB, dB, hdB, hdnB⟩ := Cond.laysAt hfound hk hffB (a' (.lays cls Bundle.tN "backtrace" "Ljava/lang/Object;") (by simp [Bundle.ownAtoms]))
  have bC := Cond.laysApart hdB hdC hdnB hdnC (by rw [hnB, Y.causeName]; decide)
  have bS := Cond.laysApart hdB hdS hdnB hdnS (by rw [hnB, Y.stackName]; decide)
  have bP := Cond.laysApart hdB hdP hdnB hdnP (by rw [hnB, Y.suppName]; decide)
  have hskip : SkipFacts T e.platform s (fun u => u) u0 ((preparedCellV T.toThrowableT (freshCell P1.m.cls kX) a u0 sen).withEntry W.cur) :=
    ⟨{ ci198 := ci198, i198 := i198, fBack := fB }, ⟨hk198, hg198, ha198, hsB⟩, by
      have := fresh_default (c := P1.m.cls) tyB
      rw [htB] at this
      simpa [preparedCellV, Cell.setSlot, Cell.withEntry, Array.getElem?_setIfInBounds, bC, bS, bP, bC.symm, bS.symm, bP.symm, defaultValue] using this, fun _ _ => rfl⟩
  obtain ⟨tm, methC, cdC, kC, vm₁, hnC, -, -, -, -, -, -, -, hW₁, st1⟩ := Steps.initColdS (tb := p.tables) (e := e) (below := below) (s := s) (U := W) X.here hexec X.warmed hpl hown (t := Bundle.initS cls) rfl rfl (Bundle.fit_spec hcls).2
    (a' (.methodLink own ic (Bundle.initS cls)) (by simp [Bundle.ownAtoms])) (h (.instanceMethod (Bundle.initS cls)) (by cases names <;> simp [Bundle.ownAtoms, Bundle.chainSAtoms, Bundle.passSAtoms])) (bytes := Bundle.six) (maxL := 2) (h (.code (Bundle.initS cls) Bundle.six 2 none) (by cases names <;> simp [Bundle.ownAtoms, Bundle.chainSAtoms, Bundle.passSAtoms]))
    (f := g) hg (a := a) (msg := msg) (rest := .ref a :: rest) hstack hd6
  cases Option.some.inj (hnC.symm.trans hP1m)
  have X₁ := X.noted hW₁
  obtain ⟨vm₂, X₂, st2⟩ := X₁.ctorMessageOffV hexec (g := { g with stack := .ref a :: rest }) hg hsize T L Z LZ M LM (P1 :: Ps)
    (fun P hP => by rcases List.mem_cons.mp hP with rfl | hP; exact L1; exact hL P hP) ⟨hlink1, hlink⟩ (u0 := u0) (sen := sen) (self := a) hmsg (cell := freshCell P1.m.cls kX) (cellS := cellS)
    hcell (fun _ => by simp) (by simp) rfl rfl hsel0 hselF hcellS hneS hknownS (by rw [hkeep _ (hout' _)]; exact hu0) (by rw [hkeep _ (hout' _)]; exact hsen)
    (Takes.of_laid hk hord tyC (by rw [Y.causeType]; rfl)) (Takes.of_laid hk hord tyS (by rw [Y.stackType]; exact fits_refV_array _ u0)) (Takes.of_laid hk hord tyP (by rw [Y.suppType]; exact fits_refV_object _ sen))
    (Takes.of_laid hk hord tyM (by rw [Y.msgType]; exact fits_refV_object _ ⟨msg, hmsg⟩)) Y.objLocals hskip htr [] hd6
    (by simp only [List.length_cons, hlen]; omega) (by simp only [List.length_cons, hlen]; exact hRlocals)
  have hlt : a < ((W.setVm vm₁).setVm vm₂).heap.size := (Array.getElem?_eq_some_iff.mp hcell).1
  refine ⟨(W.setVm vm₁).setVm vm₂, _, _, X₂, fun y hy => ?_, hlt, rfl, rfl, fun target hwalk => st1 _ (fun acts => ?_)⟩
  · simp only [List.mem_cons, List.not_mem_nil, or_false] at hy
    rcases hy with rfl | rfl | rfl | rfl | rfl <;> rfl
  · rw [doInvoke_state]
    exact st2 _ hwalk
set_option maxHeartbeats 1000000 in
theorem vx_ctorMade0 (X : Stand p l e R s m₀ args below meth c W locs cells slots) (hexec : p.tables.exec = Jvm.exec) (htr : e.platform.stackTraces = false) {own cls : String} {names : List String} {ic : Nat}
    (hown : s.vm.findClass own = some m₀.cls) (hcls : Bundle.fit cls = true) (hnames : ∀ n ∈ names, Bundle.fit n = true)
    (h : ∀ a ∈ Bundle.ownAtoms0 own ic cls names, a.before args s = true)
    (hlocs : ∀ x ∈ locs, ∀ cell, s.heap[x.base]? = some cell → cell.vm.isStatics = false)
    {a : Addr} {cX : ClassId} {kX : Class} (hfoundX : s.vm.findClass cls = some cX) (hkX : s.vm.classes[cX]? = some kX) (hcell : W.heap[a]? = some (freshCell cX kX)) (hnew : s.heap.size ≤ a)
    {g : JFrame} (hg : g.method = m₀) (hsize : g.locals.size = c.maxLocals) {rest : List Value} (hstack : g.stack = .ref a :: .ref a :: rest)
    (hd6 : decode c.code g.pc = .ok (.invokespecial ic, 3))
    (hRframes : names.length + 3 < R.frames) (hRlocals : 2 * g.monitorRoom + ((Value.ref a :: rest).map fun v => v.category).sum + (13 * (names.length + 1) + 41) ≤ R.locals) :
    ∃ (V : State) (ce : Cell) (L : List Loc), Stand p l e R s m₀ args below meth c (V.setCell a ce) (locs ++ L) cells slots ∧ (∀ y ∈ L, y.base = a) ∧ a < V.heap.size ∧ ce.cls = cX ∧ ce.vm = .none ∧
      ∀ target, Steps p.tables e below ((V.setCell a ce).setTop { g with stack := .ref a :: rest, pc := g.pc + 3 }) target → Steps p.tables e below (W.setTop g) target := by
  have howns : e.platform.frameOwnsMonitors = true := by rw [X.admits.platform]
  have hfin : e.platform.finalization = false := by rw [X.admits.platform]
  have hpl : e.platform.magicAccessors = ({} : Platform).magicAccessors := by rw [X.admits.platform]
  have a' : ∀ x, x ∈ Bundle.ownAtoms0 own ic cls names → x.holds args s none s [] = true := fun x hx => h x hx
  obtain ⟨T, Z, L, LZ, Y⟩ := ThrowableC.of_atoms (args := args) howns hfin hpl (fun x hx => h x (by simp [Bundle.ownAtoms0, hx]))
  obtain ⟨P1, Ps, hlen, L1, hL, hP1m, hlink1, hlink⟩ := Bundle.chain0 (args := args) hpl Y.init0 names cls hcls hnames (fun x hx => h x (by simp [Bundle.ownAtoms0, hx]))
  have hfound : s.vm.findClass cls = some P1.m.cls := findClass_of_methodNamed hP1m
  cases Option.some.inj (hfoundX.symm.trans hfound)
  obtain ⟨c1, kX', hc1, hk, hord, -, -, hn6⟩ := Cond.instantiable_spec (a' (.instantiable cls 6) (by simp [Bundle.ownAtoms0]))
  cases Option.some.inj (hc1.symm.trans hfound)
  cases Option.some.inj (hkX.symm.trans hk)
  have hsel0 : selectMethod e.platform s.vm P1.m.cls T.fill0 = .method T.fill0 := by
    obtain ⟨c2, r2, m2, q1, q2, q3, q4, -⟩ := Cond.selects_spec (a' (.selects cls Bundle.tFill0 Bundle.tFill0) (by simp [Bundle.ownAtoms0]))
    cases Option.some.inj (q1.symm.trans hfound)
    cases Option.some.inj (q2.symm.trans (State.methodFound?_of_named Y.fill0 (by decide)))
    cases Option.some.inj (q3.symm.trans Y.fill0)
    rw [Launch.admits_selectMethod X.admits]; exact q4
  have hselF : selectMethod e.platform s.vm P1.m.cls T.fill = .method T.fill := by
    obtain ⟨c2, r2, m2, q1, q2, q3, q4, -⟩ := Cond.selects_spec (a' (.selects cls Bundle.tFill Bundle.tFill) (by simp [Bundle.ownAtoms0]))
    cases Option.some.inj (q1.symm.trans hfound)
    cases Option.some.inj (q2.symm.trans (State.methodFound?_of_named Y.fill (by decide)))
    cases Option.some.inj (q3.symm.trans Y.fill)
    rw [Launch.admits_selectMethod X.admits]; exact q4
  obtain ⟨cellS0, hcS0, hiss⟩ := Y.statics
  obtain ⟨u0, hu0⟩ := Cond.staticRefV Y.unassigned L.unassignedStatic L.statics hcS0 hiss (a' (.isRef (.static Bundle.tN "UNASSIGNED_STACK" Bundle.steD)) (by simp [Bundle.ownAtoms0]))
  obtain ⟨sen, hsen⟩ := Cond.staticRefV Y.sentinel L.sentinelStatic L.statics hcS0 hiss (a' (.isRef (.static Bundle.tN "SUPPRESSED_SENTINEL" Bundle.listD)) (by simp [Bundle.ownAtoms0]))
  obtain ⟨ci198, i198, fB, hk198, hg198, ha198, hsB, -, hnB, htB, hffB⟩ := Cond.ownField (t := .object "java/lang/Object") Y.found L.cls (by decide +kernel) (a' (.fieldLink Bundle.tN 198 Bundle.tN "backtrace" "Ljava/lang/Object;") (by simp [Bundle.ownAtoms0])) (a' (.lays Bundle.tN Bundle.tN "backtrace" "Ljava/lang/Object;") (by simp [Bundle.ownAtoms0])) e.platform hpl
  obtain ⟨cellS, hcS', heS, -, hkeep⟩ := X.same.2.2.2.2.2 T.aS cellS0 hcS0
  have hcellS : W.heap[T.aS]? = some cellS := hcS'
  have hout' : ∀ i, (⟨T.aS, i⟩ : Loc) ∉ locs := fun i hmem => by
    have := hlocs _ hmem cellS0 hcS0
    rw [hiss] at this; cases this
  have hknownS : cellS.vm ≠ .unknown := by
    rw [heS]; intro hu
    rw [show cellS0.vm = .unknown from hu] at hiss
    cases hiss
  have hneS : T.aS ≠ a := Nat.ne_of_lt (Nat.lt_of_lt_of_le (Array.getElem?_eq_some_iff.mp hcS0).1 hnew)
  obtain ⟨iM, hffM⟩ := Y.msg
  obtain ⟨tyC, dC, hdC, hdnC⟩ := Cond.laysAt hfound hk Y.cause (a' (.lays cls Bundle.tN "cause" "Ljava/lang/Throwable;") (by simp [Bundle.ownAtoms0]))
  obtain ⟨tyS, dS, hdS, hdnS⟩ := Cond.laysAt hfound hk Y.stack (a' (.lays cls Bundle.tN "stackTrace" Bundle.steD) (by simp [Bundle.ownAtoms0]))
  obtain ⟨tyP, dP, hdP, hdnP⟩ := Cond.laysAt hfound hk Y.supp (a' (.lays cls Bundle.tN "suppressedExceptions" Bundle.listD) (by simp [Bundle.ownAtoms0]))
  obtain ⟨tyM, dM, hdM, hdnM⟩ := Cond.laysAt hfound hk hffM (a' (.lays cls Bundle.tN "detailMessage" "Ljava/lang/String;") (by simp [Bundle.ownAtoms0]))
  obtain ⟨tyB, dB, hdB, hdnB⟩ := Cond.laysAt hfound hk hffB (a' (.lays cls Bundle.tN "backtrace" "Ljava/lang/Object;") (by simp [Bundle.ownAtoms0]))
  have bC := Cond.laysApart hdB hdC hdnB hdnC (by rw [hnB, Y.causeName]; decide)
  have bS := Cond.laysApart hdB hdS hdnB hdnS (by rw [hnB, Y.stackName]; decide)
  have bP := Cond.laysApart hdB hdP hdnB hdnP (by rw [hnB, Y.suppName]; decide)
  have hskip : SkipFacts T e.platform s (fun u => u) u0 ((preparedCellV T.toThrowableT (freshCell P1.m.cls kX) a u0 sen).withEntry W.cur) :=
    ⟨{ ci198 := ci198, i198 := i198, fBack := fB }, ⟨hk198, hg198, ha198, hsB⟩, by
      have := fresh_default (c := P1.m.cls) tyB
      rw [htB] at this
      simpa [preparedCellV, Cell.setSlot, Cell.withEntry, Array.getElem?_setIfInBounds, bC, bS, bP, bC.symm, bS.symm, bP.symm, defaultValue] using this, fun _ _ => rfl⟩
  obtain ⟨tm, methC, cdC, kC, vm₁, hnC, -, -, -, -, -, -, -, hW₁, st1⟩ := Steps.initCold (tb := p.tables) (e := e) (below := below) (s := s) (U := W) X.here hexec X.warmed hpl hown (t := Bundle.init0 cls) rfl rfl (Bundle.fit_spec hcls).2
    (a' (.methodLink own ic (Bundle.init0 cls)) (by simp [Bundle.ownAtoms0])) (h (.instanceMethod (Bundle.init0 cls)) (by cases names <;> simp [Bundle.ownAtoms0, Bundle.chain0Atoms, Bundle.passAtoms])) (bytes := Bundle.five) (maxL := 1) (h (.code (Bundle.init0 cls) Bundle.five 1 none) (by cases names <;> simp [Bundle.ownAtoms0, Bundle.chain0Atoms, Bundle.passAtoms]))
    (f := g) hg (a := a) (rest := .ref a :: rest) hstack hd6
  cases Option.some.inj (hnC.symm.trans hP1m)
  have X₁ := X.noted hW₁
  obtain ⟨vm₂, X₂, st2⟩ := X₁.ctorPlainOffV hexec (g := { g with stack := .ref a :: rest }) hg hsize T L Z LZ (P1 :: Ps)
    (fun P hP => by rcases List.mem_cons.mp hP with rfl | hP; exact L1; exact hL P hP) ⟨hlink1, hlink⟩ (u0 := u0) (sen := sen) (self := a) (cell := freshCell P1.m.cls kX) (cellS := cellS)
    hcell (fun _ => by simp) (by simp) rfl rfl hsel0 hselF hcellS hneS hknownS (by rw [hkeep _ (hout' _)]; exact hu0) (by rw [hkeep _ (hout' _)]; exact hsen)
    (Takes.of_laid hk hord tyC (by rw [Y.causeType]; rfl)) (Takes.of_laid hk hord tyS (by rw [Y.stackType]; exact fits_refV_array _ u0)) (Takes.of_laid hk hord tyP (by rw [Y.suppType]; exact fits_refV_object _ sen)) Y.objLocals hskip htr [] hd6
    (by simp only [List.length_cons, hlen]; omega) (by simp only [List.length_cons, hlen]; exact hRlocals)
  have hlt : a < ((W.setVm vm₁).setVm vm₂).heap.size := (Array.getElem?_eq_some_iff.mp hcell).1
  refine ⟨(W.setVm vm₁).setVm vm₂, _, _, X₂, fun y hy => ?_, hlt, rfl, rfl, fun target hwalk => st1 _ (fun acts => ?_)⟩
  · simp only [List.mem_cons, List.not_mem_nil, or_false] at hy
    rcases hy with rfl | rfl | rfl | rfl <;> rfl
  · rw [doInvoke_state]
    exact st2 _ hwalk
end VXK
section VXK2
variable {p : Program} {l : Launch} {e : Env} {R : Room} {s : State} {m : MethodId} {args : Array Value} {below : List Frame} {meth : Method} {c : Code} {H : Heap} {locs : List Loc} {cells slots : Nat} {Q : State → Prop}
variable {ls : Array Slot} {rest : List Value} {D : va_G} {cl : List vw_C} {tys : List (ClassId × FieldType)} {ws : va_W}
/-- 'new E("text")' that isn't thrown at once: the object goes on the stack -/
theorem vx_makeS {cc : ByteArray} {pc : Nat} (hexec : p.tables.exec = Jvm.exec) (hb : c.code = cc) (hl : l.stackTraces = false) {own cls text : String} {names : List String} {ik is ic sa ci : Nat} {A : Nat → Prop} {T0 : u_T}
    (hown : s.vm.findClass own = some m.cls) (hcls : Bundle.fit cls = true) (hnames : ∀ n ∈ names, Bundle.fit n = true)
    (hk : (Cond.classLink own ik cls).before args s = true) (hini : (Cond.initialized cls).before args s = true) (hstr : vk_R own is text sa s) (hat : ∀ w ∈ vx_atS own ic cls names, w.before args s = true)
    (hgood : ∀ w ∈ Cond.classLink own ik cls :: Cond.initialized cls :: vx_atS own ic cls names, vx_ot w = true)
    (hU : vx_Zq Bundle.tN "UNASSIGNED_STACK" Bundle.steD A s s.heap) (hN : vx_Zq Bundle.tN "SUPPRESSED_SENTINEL" Bundle.listD A s s.heap) (hS : va_S A s.heap H locs) (hsize : ls.size = c.maxLocals)
    (d0 : decode cc pc = .ok (.new ik, 3)) (d3 : decode cc (pc + 3) = .ok (.dup, 1)) (d4 : decode cc (pc + 4) = .ok (.ldc is, 2)) (d6 : decode cc (pc + 6) = .ok (.invokespecial ic, 3))
    (hK : va_K D cl tys s) (hP : va_P D cl ws H) (hD : va_D A ws) (hA : ∀ q, s.heap.size ≤ q → A q) (hc : cl[ci]? = some (cls, T0, 0))
    (hRframes : names.length + 3 < R.frames) (hRlocals : (rest.map fun v => v.category).sum + (13 * (names.length + 1) + 43) ≤ R.locals) (hRcells : cells + 1 ≤ R.cells) (hRslots : slots + 6 ≤ R.slots)
    (kk : ∀ (q : Nat) (H1 : Heap), va_P D cl (ws ++ [(q, .inr (ci, []))]) H1 → va_D A (ws ++ [(q, .inr (ci, []))]) → va_S A s.heap H1 locs → W p l e R s m args below meth c H1 locs (cells + 1) (slots + 6) Q (F0 m (pc + 9) ls (.ref q :: rest))) :
    W p l e R s m args below meth c H locs cells slots Q (F0 m pc ls rest) := by
  intro T hT X
  subst hT
  have htr : e.platform.stackTraces = false := (show e.platform.stackTraces = l.stackTraces by rw [X.admits.platform]).trans hl
  have Y := vx_rebase X (R' := { frames := R.frames, locals := R.locals, cells := 1, slots := 6 }) (Nat.le_refl _) (Nat.le_refl _) hRcells hRslots
  obtain ⟨s', hA'⟩ : ∃ z, z = (T.setVm s.vm).setFrames (.invoking m args :: below) := ⟨_, rfl⟩
  rw [← hA'] at Y
  have hvm : s'.vm = s.vm := by rw [hA']; rfl
  have hhp : s'.heap = T.heap := by rw [hA']; rfl
  have hW0 : s.WarmedH s'.vm := by rw [hvm]; exact State.WarmedH.refl s
  have hat' : ∀ w ∈ vx_atS own ic cls names, w.before args s' = true := fun w hw => vx_ot_at hW0 hvm.symm (hgood w (List.mem_cons_of_mem _ (List.mem_cons_of_mem _ hw))) (hat w hw)
  have hk' : (Cond.classLink own ik cls).before args s' = true := vx_ot_at hW0 hvm.symm (hgood _ List.mem_cons_self) hk
  have hini' : (Cond.initialized cls).before args s' = true := vx_ot_at hW0 hvm.symm (hgood _ (List.mem_cons_of_mem _ List.mem_cons_self)) hini
  have hU' : vx_Zq Bundle.tN "UNASSIGNED_STACK" Bundle.steD A s' s'.heap := by rw [hhp]; exact vx_Zq.moved hW0.alike (hU.kept hS.2.1)
  have hN' : vx_Zq Bundle.tN "SUPPRESSED_SENTINEL" Bundle.listD A s' s'.heap := by rw [hhp]; exact vx_Zq.moved hW0.alike (hN.kept hS.2.1)
  have h : ∀ w ∈ Bundle.ownAtoms own ic cls names, w.before args s' = true := vx_own hat' (vx_isRefq hU'.1) (vx_isRefq hN'.1) hU'.2.word hN'.2.word
  have hown' : s'.vm.findClass own = some m.cls := by rw [hvm]; exact hown
  have hins : (Cond.instantiable cls 6).before args s' = true := h _ (by simp [Bundle.ownAtoms])
  obtain ⟨vm₁, cX, kX, hfX, hkX, -, -, X₁, st1⟩ := Y.newCold hexec (own := own) (C := cls) (index := ik) (n := 6) hown' hk' hins hini'
    (g := F0 m pc ls rest) rfl (by rw [hb]; exact d0) (Nat.le_refl _) (Nat.le_refl _)
  generalize hT1 : (T.setVm vm₁).pushCell { cls := cX, slots := kX.instanceTypes.map defaultValue, vm := .none } = T1 at X₁ st1
  have hcat : (Value.ref T.heap.size).category = 1 := rfl
  have hcellA : T1.heap[T.heap.size]? = some (freshCell cX kX) := by rw [← hT1]; exact State.heap_pushCell_size _ _
  have d3' : decode c.code (pc + 3) = .ok (.dup, 1) := by rw [hb]; exact d3
  have d4' : decode c.code (pc + 4) = .ok (.ldc is, 2) := by rw [hb]; exact d4
  have hstr' : vk_R own is text sa s' := vk_R.warm hW0 hstr
  obtain ⟨V, ce, L, Z, hL, hlt, hcl9, hvm9, st⟩ := vx_ctorMadeS X₁ hexec htr (own := own) (cls := cls) (names := names) (ic := ic) hown' hcls hnames h (fun x hx => nomatch hx) hfX hkX hcellA (by rw [hhp]; exact Nat.le_refl _) (msg := .ref sa) rfl
    (g := { method := m, pc := pc + 6, locals := ls, stack := .ref sa :: .ref T.heap.size :: .ref T.heap.size :: rest, locked := none }) rfl hsize (rest := rest) rfl
    (by rw [hb]; exact d6) hRframes (by simp only [List.map_cons, List.sum_cons, hcat]; omega)
  have Z0 := Stand.forget (locs := []) Z (fun y hy => by rw [hL y hy, hhp]; exact Nat.le_refl _)
  obtain ⟨f1, f2⟩ := vx_frame Z0.same
  rw [hhp] at f1 f2
  have hcid : ce.cls = D.1 ci := by
    rw [hcl9]
    have h1 := (hK.1 ci _ hc).2.1
    rw [hvm] at hfX
    exact Option.some.inj (hfX.symm.trans h1)
  have hh : (V.setCell T.heap.size ce).heap[T.heap.size]? = some ce := heapAt_setCell_self (s := V) ce hlt
  subst hA'
  have X5 := vx_back9 X Y Z0
  have X6 : Stand p l e R s m args below meth c (V.setCell T.heap.size ce) locs (cells + 1) (slots + 6) := { X5 with same := X5.same.mono (by omega) (by omega) }
  have hk9 : ∀ (k : Nat) (x : Nat × va_E), ws[k]? = some x → (V.setCell T.heap.size ce).heap[x.1]? = T.heap[x.1]? := fun k x hx => f2 x.1 ((hP k x hx).lt) (fun z hz => nomatch hz)
  obtain ⟨t, a1, b1⟩ := kk T.heap.size (V.setCell T.heap.size ce).heap ((hP.kept hk9).app (fun k x hx => by
      have hz : k < 1 := (List.getElem?_eq_some_iff.mp hx).1
      rw [show k = 0 by omega] at hx
      cases hx
      exact ⟨_, hc, ce, hh, hcid, hvm9, fun k hk => absurd hk (Nat.not_lt_zero k)⟩)) (hD.push hP rfl (hA _ hS.1)) ⟨Nat.le_trans hS.1 f1, fun q h1 h2 => (f2 q (Nat.lt_of_lt_of_le h1 hS.1) (fun z hz => nomatch hz)).trans (hS.2.1 q h1 h2), hS.2.2⟩ _ rfl X6
  refine ⟨t, st1 _ ?_, b1⟩
  show Steps p.tables e below (T1.setTop { method := m, pc := pc + 3, locals := ls, stack := .ref T.heap.size :: rest, locked := none }) _
  jvm_step X₁.here [X₁.here.top, hexec, d3', Value.category]
  exact X₁.ldcString hexec (own := own) (text := text) (index := is) (a := sa) hown' hstr'.1 hstr'.2
    (g := { method := m, pc := pc + 4, locals := ls, stack := .ref T.heap.size :: .ref T.heap.size :: rest, locked := none }) rfl d4' _ (st _ a1)
/-- 'new E()' that isn't thrown at once: the object goes on the stack -/
theorem vx_make0 {cc : ByteArray} {pc : Nat} (hexec : p.tables.exec = Jvm.exec) (hb : c.code = cc) (hl : l.stackTraces = false) {own cls : String} {names : List String} {ik ic ci : Nat} {A : Nat → Prop} {T0 : u_T}
    (hown : s.vm.findClass own = some m.cls) (hcls : Bundle.fit cls = true) (hnames : ∀ n ∈ names, Bundle.fit n = true)
    (hk : (Cond.classLink own ik cls).before args s = true) (hini : (Cond.initialized cls).before args s = true) (hat : ∀ w ∈ vx_at0 own ic cls names, w.before args s = true)
    (hgood : ∀ w ∈ Cond.classLink own ik cls :: Cond.initialized cls :: vx_at0 own ic cls names, vx_ot w = true)
    (hU : vx_Zq Bundle.tN "UNASSIGNED_STACK" Bundle.steD A s s.heap) (hN : vx_Zq Bundle.tN "SUPPRESSED_SENTINEL" Bundle.listD A s s.heap) (hS : va_S A s.heap H locs) (hsize : ls.size = c.maxLocals)
    (d0 : decode cc pc = .ok (.new ik, 3)) (d3 : decode cc (pc + 3) = .ok (.dup, 1)) (d4 : decode cc (pc + 4) = .ok (.invokespecial ic, 3))
    (hK : va_K D cl tys s) (hP : va_P D cl ws H) (hD : va_D A ws) (hA : ∀ q, s.heap.size ≤ q → A q) (hc : cl[ci]? = some (cls, T0, 0))
    (hRframes : names.length + 3 < R.frames) (hRlocals : (rest.map fun v => v.category).sum + (13 * (names.length + 1) + 42) ≤ R.locals) (hRcells : cells + 1 ≤ R.cells) (hRslots : slots + 6 ≤ R.slots)
    (kk : ∀ (q : Nat) (H1 : Heap), va_P D cl (ws ++ [(q, .inr (ci, []))]) H1 → va_D A (ws ++ [(q, .inr (ci, []))]) → va_S A s.heap H1 locs → W p l e R s m args below meth c H1 locs (cells + 1) (slots + 6) Q (F0 m (pc + 7) ls (.ref q :: rest))) :
    W p l e R s m args below meth c H locs cells slots Q (F0 m pc ls rest) := by
  intro T hT X
  subst hT
  have htr : e.platform.stackTraces = false := (show e.platform.stackTraces = l.stackTraces by rw [X.admits.platform]).trans hl
  have Y := vx_rebase X (R' := { frames := R.frames, locals := R.locals, cells := 1, slots := 6 }) (Nat.le_refl _) (Nat.le_refl _) hRcells hRslots
  obtain ⟨s', hA'⟩ : ∃ z, z = (T.setVm s.vm).setFrames (.invoking m args :: below) := ⟨_, rfl⟩
  rw [← hA'] at Y
  have hvm : s'.vm = s.vm := by rw [hA']; rfl
  have hhp : s'.heap = T.heap := by rw [hA']; rfl
  have hW0 : s.WarmedH s'.vm := by rw [hvm]; exact State.WarmedH.refl s
  have hat' : ∀ w ∈ vx_at0 own ic cls names, w.before args s' = true := fun w hw => vx_ot_at hW0 hvm.symm (hgood w (List.mem_cons_of_mem _ (List.mem_cons_of_mem _ hw))) (hat w hw)
  have hk' : (Cond.classLink own ik cls).before args s' = true := vx_ot_at hW0 hvm.symm (hgood _ List.mem_cons_self) hk
  have hini' : (Cond.initialized cls).before args s' = true := vx_ot_at hW0 hvm.symm (hgood _ (List.mem_cons_of_mem _ List.mem_cons_self)) hini
  have hU' : vx_Zq Bundle.tN "UNASSIGNED_STACK" Bundle.steD A s' s'.heap := by rw [hhp]; exact vx_Zq.moved hW0.alike (hU.kept hS.2.1)
  have hN' : vx_Zq Bundle.tN "SUPPRESSED_SENTINEL" Bundle.listD A s' s'.heap := by rw [hhp]; exact vx_Zq.moved hW0.alike (hN.kept hS.2.1)
  have h : ∀ w ∈ Bundle.ownAtoms0 own ic cls names, w.before args s' = true := vx_own hat' (vx_isRefq hU'.1) (vx_isRefq hN'.1) hU'.2.word hN'.2.word
  have hown' : s'.vm.findClass own = some m.cls := by rw [hvm]; exact hown
  have hins : (Cond.instantiable cls 6).before args s' = true := h _ (by simp [Bundle.ownAtoms0])
  obtain ⟨vm₁, cX, kX, hfX, hkX, -, -, X₁, st1⟩ := Y.newCold hexec (own := own) (C := cls) (index := ik) (n := 6) hown' hk' hins hini'
    (g := F0 m pc ls rest) rfl (by rw [hb]; exact d0) (Nat.le_refl _) (Nat.le_refl _)
  generalize hT1 : (T.setVm vm₁).pushCell { cls := cX, slots := kX.instanceTypes.map defaultValue, vm := .none } = T1 at X₁ st1
  have hcat : (Value.ref T.heap.size).category = 1 := rfl
  have hcellA : T1.heap[T.heap.size]? = some (freshCell cX kX) := by rw [← hT1]; exact State.heap_pushCell_size _ _
  have d3' : decode c.code (pc + 3) = .ok (.dup, 1) := by rw [hb]; exact d3
  obtain ⟨V, ce, L, Z, hL, hlt, hcl9, hvm9, st⟩ := vx_ctorMade0 X₁ hexec htr (own := own) (cls := cls) (names := names) (ic := ic) hown' hcls hnames h (fun x hx => nomatch hx) hfX hkX hcellA (by rw [hhp]; exact Nat.le_refl _)
    (g := { method := m, pc := pc + 4, locals := ls, stack := .ref T.heap.size :: .ref T.heap.size :: rest, locked := none }) rfl hsize (rest := rest) rfl
    (by rw [hb]; exact d4) hRframes (by simp only [List.map_cons, List.sum_cons, hcat]; omega)
  have Z0 := Stand.forget (locs := []) Z (fun y hy => by rw [hL y hy, hhp]; exact Nat.le_refl _)
  obtain ⟨f1, f2⟩ := vx_frame Z0.same
  rw [hhp] at f1 f2
  have hcid : ce.cls = D.1 ci := by
    rw [hcl9]
    have h1 := (hK.1 ci _ hc).2.1
    rw [hvm] at hfX
    exact Option.some.inj (hfX.symm.trans h1)
  have hh : (V.setCell T.heap.size ce).heap[T.heap.size]? = some ce := heapAt_setCell_self (s := V) ce hlt
  subst hA'
  have X5 := vx_back9 X Y Z0
  have X6 : Stand p l e R s m args below meth c (V.setCell T.heap.size ce) locs (cells + 1) (slots + 6) := { X5 with same := X5.same.mono (by omega) (by omega) }
  have hk9 : ∀ (k : Nat) (x : Nat × va_E), ws[k]? = some x → (V.setCell T.heap.size ce).heap[x.1]? = T.heap[x.1]? := fun k x hx => f2 x.1 ((hP k x hx).lt) (fun z hz => nomatch hz)
  obtain ⟨t, a1, b1⟩ := kk T.heap.size (V.setCell T.heap.size ce).heap ((hP.kept hk9).app (fun k x hx => by
      have hz : k < 1 := (List.getElem?_eq_some_iff.mp hx).1
      rw [show k = 0 by omega] at hx
      cases hx
      exact ⟨_, hc, ce, hh, hcid, hvm9, fun k hk => absurd hk (Nat.not_lt_zero k)⟩)) (hD.push hP rfl (hA _ hS.1)) ⟨Nat.le_trans hS.1 f1, fun q h1 h2 => (f2 q (Nat.lt_of_lt_of_le h1 hS.1) (fun z hz => nomatch hz)).trans (hS.2.1 q h1 h2), hS.2.2⟩ _ rfl X6
  refine ⟨t, st1 _ ?_, b1⟩
  show Steps p.tables e below (T1.setTop { method := m, pc := pc + 3, locals := ls, stack := .ref T.heap.size :: rest, locked := none }) _
  jvm_step X₁.here [X₁.here.top, hexec, d3', Value.category]
  exact st _ a1
/-- 'throw x' of an object that was made before -/
theorem vx_athrow {cc : ByteArray} {pc : Nat} (hexec : p.tables.exec = Jvm.exec) (hb : c.code = cc) {q : Addr} (hdg : decode cc pc = .ok (.athrow, 1)) (k : vx_W p l e R s m args below meth c H locs cells slots Q (F0 m pc ls rest) q) : W p l e R s m args below meth c H locs cells slots Q (F0 m pc ls (.ref q :: rest)) := by
  intro T hT X
  obtain ⟨t, st, hq⟩ := k T hT X
  refine ⟨t, ?_, hq⟩
  have hdg' : decode c.code pc = .ok (.athrow, 1) := by rw [hb]; exact hdg
  jvm_step X.here [X.here.top, hexec, hdg', athrow.wp_sem]
  exact st
end VXK2
/-! ===== END ===== -/
/-! ===== BEGIN a constructor that throws (launches without stack traces) ===== -/
section VXIA
variable {p : Program} {l : Launch} {e : Env} {R : Room} {s : State} {m : MethodId} {args : Array Value} {below : List Frame} {meth : Method} {c : Code} {T : State} {locs : List Loc} {cells slots : Nat}
theorem vx_callI (X : Stand p l e R s m args below meth c T locs cells slots) (hexec : p.tables.exec = Jvm.exec) {own : String} {index : Nat} {y : MethodName} {bytes : ByteArray} {maxL : Nat}
    (hown : s.vm.findClass own = some m.cls) (hy1 : y.name = "<init>") (hlink : (Cond.methodLink own index y).before args s = true) (hinst : (Cond.instanceMethod y).before args s = true)
    (hcode : (Cond.code y bytes maxL none).before args s = true) (hy : y.cls ≠ "java/lang/invoke/MethodHandle" ∧ y.cls ≠ "java/lang/invoke/VarHandle")
    {W9 : Nat} {Pre : Pt → Array Value → Prop} {Post : Pt → Array Value → Option Value → Pt → Prop} {PostX : Pt → Array Value → Addr → Pt → Prop} (hK : vx_Back l R p e below s args y 3 W9 Pre Post PostX)
    {g : JFrame} (hg : g.method = m) (hsize : g.locals.size = c.maxLocals) {a : Addr} {argsL rest : List Value} (hlen : ∀ sig, parseMethodDescriptor y.desc = some sig → argsL.length = sig.parameters.length)
    (hstack : g.stack = argsL.reverse ++ .ref a :: rest) (hW : 2 * g.monitorRoom + (rest.map fun v => v.category).sum ≤ W9) (hdg : decode c.code g.pc = .ok (.invokespecial index, 3))
    (hpre : ∀ vm₁, s.WarmedH vm₁ → Pre ⟨T.setVm vm₁, locs, cells, slots⟩ (Value.ref a :: argsL).toArray) :
    (∃ (v : Option Value) (vm₁ : Vm) (B : Pt), s.WarmedH vm₁ ∧ Stand p l e R s m args below meth c B.U B.locs B.cells B.slots ∧ Post ⟨T.setVm vm₁, locs, cells, slots⟩ (Value.ref a :: argsL).toArray v B ∧
      ∀ target, Steps p.tables e below (B.U.setTop { g with pc := g.pc + 3, stack := v.toList ++ rest }) target → Steps p.tables e below (T.setTop g) target) ∨
    (∃ (q : Addr) (vm₁ : Vm) (B : Pt), s.WarmedH vm₁ ∧ Stand p l e R s m args below meth c B.U B.locs B.cells B.slots ∧ PostX ⟨T.setVm vm₁, locs, cells, slots⟩ (Value.ref a :: argsL).toArray q B ∧
      Steps p.tables e below (T.setTop g) ((B.U.setTop { g with stack := rest }).pushFrame (.throwing q))) := by
  subst hg
  have hpl : e.platform.magicAccessors = ({} : Platform).magicAccessors := by rw [X.admits.platform]
  obtain ⟨mk, methM, cM, kP, vm₁, hnamed, hmethM, hcodeM, -, hlocalsM, -, hkP, -, hW₁, hstep₁⟩ := Steps.initColdArgs (e := e) X.here hexec X.warmed hpl hown hy1 hy hlink hinst hcode (f := g) rfl hlen hstack hdg
  have X₁ := X.noted hW₁
  rcases hK g.method meth c ⟨T.setVm vm₁, locs, cells, slots⟩ { g with stack := rest } (.invokespecial index) mk (Value.ref a :: argsL).toArray X₁ rfl hsize hdg hW (X₁.named hnamed) (hpre vm₁ X₁.warmed) with ⟨v, B, X', hpost, hsteps⟩ | ⟨q, B, X', hpost, hsteps⟩
  · exact Or.inl ⟨v, vm₁, B, X₁.warmed, X', hpost, fun target h => hstep₁ _ fun acts => by rw [doInvoke_state]; exact hsteps.trans h⟩
  · exact Or.inr ⟨q, vm₁, B, X₁.warmed, X', hpost, hstep₁ _ fun acts => by rw [doInvoke_state]; exact hsteps⟩
end VXIA
section VXIB
variable {p : Program} {l : Launch} {e : Env} {R : Room} {s : State} {m : MethodId} {args : Array Value} {below : List Frame} {meth : Method} {c : Code} {H : Heap} {locs : List Loc} {cells slots : Nat}
variable {y : MethodName} {bytes cc : ByteArray} {maxL nL mc ms n index : Nat} {ret : Option FieldType} {ws : List Cond} {rm : Room} {Pc : Array Value → State → Prop} {Qc : Array Value → State → Outcome → State → Prop} {XC : String → State → State → Prop} {free : Addr → Prop} {Ts : List Cond} {own C : String} {b : Addr} {As rest : List Value} {g : JFrame}
theorem vx_runI (S : CallFix p m c cc nL s args Ts own) (hM : vx_Met l y ws rm Pc Qc XC mc ms free) (cw : CallB R s args own index y bytes maxL none ws rm mc ms n ∧ y.name = "<init>" ∧ (Cond.instanceMethod y).before args s = true) (hp : PreS s H Pc (.ref b :: As))
    (hg : g.method = m) (hn : As.length = n) (hsize : g.locals.size = nL) (hstack : g.stack = As.reverse ++ .ref b :: rest) (hW : 2 * g.monitorRoom + (rest.map fun v => v.category).sum ≤ 8) (hdg : decode cc g.pc = .ok (.invokespecial index, 3)) (hf : cells + mc ≤ R.cells ∧ slots + ms ≤ R.slots) :
    vx_Run p l e R s m args below meth c H locs cells slots mc ms g rest (Qc (Value.ref b :: As).toArray) XC free := by
  have hK : vx_Back l R p e below s args y 3 8 (PreOf R mc ms Pc) (PostOf Qc mc ms free) (vx_Post XC mc ms free) := vx_callBack cw.1 hM hp.1
  obtain ⟨⟨-, -, -, -, -, -, hcode, -, hy, hlen, hl⟩, hy1, hin⟩ := cw
  obtain ⟨hx, hb, hml, ho, -⟩ := S
  have hPc := hp.2
  intro T hT X
  rcases vx_callI X hx (bytes := bytes) (maxL := maxL) ho hy1 hl hin hcode hy hK hg (hsize.trans hml.symm) (a := b) (argsL := As) (rest := rest) (fun sig h => hn.trans (hlen sig h)) hstack hW (by rw [hb]; exact hdg)
    (fun vm₁ hW₁ => ⟨hf.1, hf.2, hPc (T.setVm vm₁) hT hW₁⟩) with ⟨v, vm₁, ⟨U', l2, c2, s2⟩, hW₁, X', ⟨g', mk, t, L, e1, e2, hq, h1, hL, h2, h3⟩, st⟩ | ⟨q, vm₁, ⟨U', l2, c2, s2⟩, hW₁, X', ⟨g', mk, t, L, E, ce, e1, e2, hq, hce, hcv, hcl, h1, hL, h2, h3⟩, st⟩
  · dsimp only [Pt.U, Pt.locs, Pt.cells, Pt.slots] at X' e1 e2 h1 h2 h3 st
    subst h1; subst h2; subst h3
    exact Or.inl ⟨v, (T.setVm vm₁).calling g' mk (Value.ref b :: As).toArray, t, U', L, hT, X', hL, e1, e2, hq, st⟩
  · dsimp only [Pt.U, Pt.locs, Pt.cells, Pt.slots] at X' e1 e2 h1 h2 h3 st hcl
    subst h1; subst h2; subst h3
    exact Or.inr ⟨q, (T.setVm vm₁).calling g' mk (Value.ref b :: As).toArray, t, U', L, E, ce, hT, X', hL, e1, e2, hq, hce, hcv, vx_cls hW₁ hcl, st⟩
end VXIB
/-! ===== END ===== -/
/-! ===== BEGIN a private constructor of a nest mate that throws ===== -/
section VXIC
variable {p : Program} {l : Launch} {e : Env} {R : Room} {s : State} {m : MethodId} {args : Array Value} {below : List Frame} {meth : Method} {c : Code} {T : State} {locs : List Loc} {cells slots : Nat}
theorem vx_callIN (X : Stand p l e R s m args below meth c T locs cells slots) (hexec : p.tables.exec = Jvm.exec) {own : String} {index : Nat} {host : String} {y : MethodName} {bytes : ByteArray} {maxL : Nat}
    (hown : s.vm.findClass own = some m.cls) (hy1 : y.name = "<init>") (hlink : (Cond.methodLinkNest own index y host).before args s = true) (hinst : (Cond.instanceMethod y).before args s = true)
    (hcode : (Cond.code y bytes maxL none).before args s = true) (hy : y.cls ≠ "java/lang/invoke/MethodHandle" ∧ y.cls ≠ "java/lang/invoke/VarHandle")
    {W9 : Nat} {Pre : Pt → Array Value → Prop} {Post : Pt → Array Value → Option Value → Pt → Prop} {PostX : Pt → Array Value → Addr → Pt → Prop} (hK : vx_Back l R p e below s args y 3 W9 Pre Post PostX)
    {g : JFrame} (hg : g.method = m) (hsize : g.locals.size = c.maxLocals) {a : Addr} {argsL rest : List Value} (hlen : ∀ sig, parseMethodDescriptor y.desc = some sig → argsL.length = sig.parameters.length)
    (hstack : g.stack = argsL.reverse ++ .ref a :: rest) (hW : 2 * g.monitorRoom + (rest.map fun v => v.category).sum ≤ W9) (hdg : decode c.code g.pc = .ok (.invokespecial index, 3))
    (hpre : ∀ vm₁, s.WarmedH vm₁ → Pre ⟨T.setVm vm₁, locs, cells, slots⟩ (Value.ref a :: argsL).toArray) :
    (∃ (v : Option Value) (vm₁ : Vm) (B : Pt), s.WarmedH vm₁ ∧ Stand p l e R s m args below meth c B.U B.locs B.cells B.slots ∧ Post ⟨T.setVm vm₁, locs, cells, slots⟩ (Value.ref a :: argsL).toArray v B ∧
      ∀ target, Steps p.tables e below (B.U.setTop { g with pc := g.pc + 3, stack := v.toList ++ rest }) target → Steps p.tables e below (T.setTop g) target) ∨
    (∃ (q : Addr) (vm₁ : Vm) (B : Pt), s.WarmedH vm₁ ∧ Stand p l e R s m args below meth c B.U B.locs B.cells B.slots ∧ PostX ⟨T.setVm vm₁, locs, cells, slots⟩ (Value.ref a :: argsL).toArray q B ∧
      Steps p.tables e below (T.setTop g) ((B.U.setTop { g with stack := rest }).pushFrame (.throwing q))) := by
  subst hg
  have hpl : e.platform.magicAccessors = ({} : Platform).magicAccessors := by rw [X.admits.platform]
  obtain ⟨mk, methM, cM, kP, vm₁, hnamed, hmethM, hcodeM, -, hlocalsM, -, hkP, -, hW₁, hstep₁⟩ := Steps.initColdArgsNest (e := e) X.here hexec X.warmed hpl hown hy1 hy hlink hinst hcode (f := g) rfl hlen hstack hdg
  have X₁ := X.noted hW₁
  rcases hK g.method meth c ⟨T.setVm vm₁, locs, cells, slots⟩ { g with stack := rest } (.invokespecial index) mk (Value.ref a :: argsL).toArray X₁ rfl hsize hdg hW (X₁.named hnamed) (hpre vm₁ X₁.warmed) with ⟨v, B, X', hpost, hsteps⟩ | ⟨q, B, X', hpost, hsteps⟩
  · exact Or.inl ⟨v, vm₁, B, X₁.warmed, X', hpost, fun target h => hstep₁ _ fun acts => by rw [doInvoke_state]; exact hsteps.trans h⟩
  · exact Or.inr ⟨q, vm₁, B, X₁.warmed, X', hpost, hstep₁ _ fun acts => by rw [doInvoke_state]; exact hsteps⟩
end VXIC
section VXID
variable {p : Program} {l : Launch} {e : Env} {R : Room} {s : State} {m : MethodId} {args : Array Value} {below : List Frame} {meth : Method} {c : Code} {H : Heap} {locs : List Loc} {cells slots : Nat}
theorem vx_runIN {y : MethodName} {bytes cc : ByteArray} {maxL nL mc ms n index : Nat} {ws : List Cond} {rm : Room} {Pc : Array Value → State → Prop} {Qc : Array Value → State → Outcome → State → Prop} {XC : String → State → State → Prop} {free : Addr → Prop} {Ts : List Cond} {own host : String} {b : Addr} {As rest : List Value} {g : JFrame}
    (S : CallFix p m c cc nL s args Ts own) (hM : vx_Met l y ws rm Pc Qc XC mc ms free) (cw : va_CN R s args own index y host bytes maxL none ws rm mc ms n ∧ y.name = "<init>" ∧ (Cond.instanceMethod y).before args s = true) (hp : PreS s H Pc (.ref b :: As))
    (hg : g.method = m) (hn : As.length = n) (hsize : g.locals.size = nL) (hstack : g.stack = As.reverse ++ .ref b :: rest) (hW : 2 * g.monitorRoom + (rest.map fun v => v.category).sum ≤ 8) (hdg : decode cc g.pc = .ok (.invokespecial index, 3)) (hf : cells + mc ≤ R.cells ∧ slots + ms ≤ R.slots) :
    vx_Run p l e R s m args below meth c H locs cells slots mc ms g rest (Qc (Value.ref b :: As).toArray) XC free := by
  obtain ⟨⟨⟨hrc, hrs, hfr, hlo, hws, hcw⟩, hcode, hini, hy, hlen, hl⟩, hx1, hx2⟩ := cw
  have hK : vx_Back l R p e below s args y 3 8 (PreOf R mc ms Pc) (PostOf Qc mc ms free) (vx_Post XC mc ms free) := vx_back (bytes := bytes) (maxL := maxL) (ret := none) hM hp.1 hrc hrs hfr hlo hws hcw (fun a' U hW => word_at hW (Or.inl (by first | rfl | simp [Cond.onTables, Cond.keeps, Cond.steady])) hini)
  obtain ⟨hx, hb, hml, ho, -⟩ := S
  have hPc := hp.2
  intro T hT X
  rcases vx_callIN X hx (bytes := bytes) (maxL := maxL) ho hx1 hl hx2 hcode hy hK hg (hsize.trans hml.symm) (a := b) (argsL := As) (rest := rest) (fun sig h => hn.trans (hlen sig h)) hstack hW (by rw [hb]; exact hdg)
    (fun vm₁ hW₁ => ⟨hf.1, hf.2, hPc (T.setVm vm₁) hT hW₁⟩) with ⟨v, vm₁, ⟨U', l2, c2, s2⟩, hW₁, X', ⟨g', mk, t, L, e1, e2, hq, h1, hL, h2, h3⟩, st⟩ | ⟨q, vm₁, ⟨U', l2, c2, s2⟩, hW₁, X', ⟨g', mk, t, L, E, ce, e1, e2, hq, hce, hcv, hcl, h1, hL, h2, h3⟩, st⟩
  · dsimp only [Pt.U, Pt.locs, Pt.cells, Pt.slots] at X' e1 e2 h1 h2 h3 st
    subst h1; subst h2; subst h3
    exact Or.inl ⟨v, (T.setVm vm₁).calling g' mk (Value.ref b :: As).toArray, t, U', L, hT, X', hL, e1, e2, hq, st⟩
  · dsimp only [Pt.U, Pt.locs, Pt.cells, Pt.slots] at X' e1 e2 h1 h2 h3 st hcl
    subst h1; subst h2; subst h3
    exact Or.inr ⟨q, (T.setVm vm₁).calling g' mk (Value.ref b :: As).toArray, t, U', L, E, ce, hT, X', hL, e1, e2, hq, hce, hcv, vx_cls hW₁ hcl, st⟩
end VXID
/-! ===== END ===== -/
/-! ===== BEGIN a method of a class above, found by the receiver, that may throw (follows va_callVU, va_runU of this kit) ===== -/
section
variable {p : Program} {l : Launch} {e : Env} {R : Room} {s : State} {m : MethodId} {args : Array Value} {below : List Frame} {meth : Method} {c : Code} {H : Heap} {locs : List Loc} {cells slots : Nat}
theorem vx_callVU {T : State} {locs : List Loc} {cells slots : Nat} (X : Stand p l e R s m args below meth c T locs cells slots) (hexec : p.tables.exec = Jvm.exec) {own C owner : String} {index : Nat} {x y : MethodName} {bytes : ByteArray} {maxL : Nat} {ret : Option FieldType}
    (hown : s.vm.findClass own = some m.cls) (hlink : (Cond.methodLink own index x).before args s = true) (hsame : (Cond.sameMethod x.cls owner x.name x.desc).before args s = true)
    (hd0 : va_Decl s ⟨owner, x.name, x.desc⟩) (howner : owner ≠ "java/lang/invoke/MethodHandle" ∧ owner ≠ "java/lang/invoke/VarHandle")
    (hsel : (Cond.selects C x y).before args s = true) (hinst : (Cond.instanceMethod y).before args s = true) (hcode : (Cond.code y bytes maxL ret).before args s = true)
    {W : Nat} {Pre : Pt → Array Value → Prop} {Post : Pt → Array Value → Option Value → Pt → Prop} {PostX : Pt → Array Value → Addr → Pt → Prop} (hK : vx_Back l R p e below s args y 3 W Pre Post PostX)
    {b : Addr} {cellB : Cell} (hcell : T.heap[b]? = some cellB) (hobj : cellB.vm.isStatics = false) (hcls : s.vm.findClass C = some cellB.cls)
    {g : JFrame} (hg : g.method = m) (hsize : g.locals.size = c.maxLocals) {argsL rest : List Value} (hlen : ∀ sig, parseMethodDescriptor x.desc = some sig → argsL.length = sig.parameters.length)
    (hstack : g.stack = argsL.reverse ++ .ref b :: rest) (hW : 2 * g.monitorRoom + (rest.map fun v => v.category).sum ≤ W) (hdg : decode c.code g.pc = .ok (.invokevirtual index, 3))
    (hpre : ∀ vm₁, s.WarmedH vm₁ → Pre ⟨T.setVm vm₁, locs, cells, slots⟩ (Value.ref b :: argsL).toArray) :
    (∃ (v : Option Value) (vm₁ : Vm) (B : Pt), s.WarmedH vm₁ ∧ Stand p l e R s m args below meth c B.U B.locs B.cells B.slots ∧ Post ⟨T.setVm vm₁, locs, cells, slots⟩ (Value.ref b :: argsL).toArray v B ∧
      ∀ target, Steps p.tables e below (B.U.setTop { g with pc := g.pc + 3, stack := v.toList ++ rest }) target → Steps p.tables e below (T.setTop g) target) ∨
    (∃ (q : Addr) (vm₁ : Vm) (B : Pt), s.WarmedH vm₁ ∧ Stand p l e R s m args below meth c B.U B.locs B.cells B.slots ∧ PostX ⟨T.setVm vm₁, locs, cells, slots⟩ (Value.ref b :: argsL).toArray q B ∧
      Steps p.tables e below (T.setTop g) ((B.U.setTop { g with stack := rest }).pushFrame (.throwing q))) := by
  obtain ⟨r0, r, hn, hrm, hstR, hsigR⟩ := hd0
  obtain ⟨cn, ck, r1, hcn, hck, hni, hf, hn1⟩ := Cond.sameMethod_found hsame
  cases hn.symm.trans hn1
  obtain ⟨mk, methM, hnamed, hmethM, -, habM⟩ := Cond.instanceMethod_spec hinst
  obtain ⟨c2, r2, m2, q1, q2, q3, q4, kP, hkP, hkPi⟩ := Cond.selects_spec hsel
  cases hcls.symm.trans q1
  cases hf.symm.trans q2
  cases hnamed.symm.trans q3
  have hselP : selectMethod e.platform s.vm cellB.cls r0 = .method mk := by rw [Launch.admits_selectMethod X.admits]; exact q4
  obtain ⟨vm₁, X₁, hstep₁⟩ := X.invokevirtualUp hexec hown hlink hsame howner hn hrm hstR (a := b) (cell := cellB) hcell
    (fun z h => by rw [h] at hobj; cases hobj) hselP hmethM habM hkP hkPi (g := g) hg (argsL := argsL) (rest := rest) (hlen _ hsigR) hstack hdg
  rcases hK m meth c ⟨T.setVm vm₁, locs, cells, slots⟩ { g with stack := rest } (.invokevirtual index) mk (Value.ref b :: argsL).toArray X₁ hg hsize hdg hW (X₁.named hnamed) (hpre vm₁ X₁.warmed) with ⟨v, B, X', hpost, hsteps⟩ | ⟨q, B, X', hpost, hsteps⟩
  · exact Or.inl ⟨v, vm₁, B, X₁.warmed, X', hpost, fun target h => hstep₁ _ fun acts => by rw [doInvoke_state]; exact hsteps.trans h⟩
  · exact Or.inr ⟨q, vm₁, B, X₁.warmed, X', hpost, hstep₁ _ fun acts => by rw [doInvoke_state]; exact hsteps⟩
theorem vx_runU {x y : MethodName} {bytes cc : ByteArray} {maxL nL mc ms n index : Nat} {ret : Option FieldType} {ws : List Cond} {rm : Room} {Pc : Array Value → State → Prop} {Qc : Array Value → State → Outcome → State → Prop} {XC : String → State → State → Prop} {free : Addr → Prop} {Ts : List Cond} {own C owner : String} {b : Addr} {As rest : List Value} {g : JFrame}
    (S : CallFix p m c cc nL s args Ts own) (hM : vx_Met l y ws rm Pc Qc XC mc ms free) (cw : va_CU R s args own C owner index x y bytes maxL ret ws rm mc ms n) (hp : PreV s H C b Pc As)
    (hg : g.method = m) (hn : As.length = n) (hsize : g.locals.size = nL) (hstack : g.stack = As.reverse ++ .ref b :: rest) (hW : 2 * g.monitorRoom + (rest.map fun v => v.category).sum ≤ 8) (hdg : decode cc g.pc = .ok (.invokevirtual index, 3)) (hf : cells + mc ≤ R.cells ∧ slots + ms ≤ R.slots) :
    vx_Run p l e R s m args below meth c H locs cells slots mc ms g rest (Qc (Value.ref b :: As).toArray) XC free := by
  obtain ⟨hrc, hrs, hfr, hlo, hws, hcw⟩ := cw.back
  have hini := cw.init
  have hK : vx_Back l R p e below s args y 3 8 (PreOf R mc ms Pc) (PostOf Qc mc ms free) (vx_Post XC mc ms free) := vx_back (bytes := bytes) (maxL := maxL) (ret := ret) hM hp.1 hrc hrs hfr hlo hws hcw (fun a' U hW => word_at hW (Or.inl (by first | rfl | simp [Cond.onTables, Cond.keeps, Cond.steady])) hini)
  obtain ⟨hx, hb, hml, ho, -⟩ := S
  obtain ⟨-, ⟨cellB, hcB, hoB, hclB⟩, hPc⟩ := hp
  intro T hT X
  rcases vx_callVU X hx (C := C) (owner := owner) (bytes := bytes) (maxL := maxL) (ret := ret) ho cw.link cw.same cw.decl cw.notMH cw.sel cw.inst cw.code hK (by rw [hT]; exact hcB) hoB hclB hg (hsize.trans hml.symm) (argsL := As) (rest := rest) (fun sig h => hn.trans (cw.len sig h)) hstack hW (by rw [hb]; exact hdg)
    (fun vm₁ hW₁ => ⟨hf.1, hf.2, hPc (T.setVm vm₁) hT hW₁⟩) with ⟨v, vm₁, ⟨U', l2, c2, s2⟩, hW₁, X', ⟨g', mk, t, L, e1, e2, hq, h1, hL, h2, h3⟩, st⟩ | ⟨q, vm₁, ⟨U', l2, c2, s2⟩, hW₁, X', ⟨g', mk, t, L, E, ce, e1, e2, hq, hce, hcv, hcl, h1, hL, h2, h3⟩, st⟩
  · dsimp only [Pt.U, Pt.locs, Pt.cells, Pt.slots] at X' e1 e2 h1 h2 h3 st
    subst h1; subst h2; subst h3
    exact Or.inl ⟨v, (T.setVm vm₁).calling g' mk (Value.ref b :: As).toArray, t, U', L, hT, X', hL, e1, e2, hq, st⟩
  · dsimp only [Pt.U, Pt.locs, Pt.cells, Pt.slots] at X' e1 e2 h1 h2 h3 st hcl
    subst h1; subst h2; subst h3
    exact Or.inr ⟨q, (T.setVm vm₁).calling g' mk (Value.ref b :: As).toArray, t, U', L, E, ce, hT, X', hL, e1, e2, hq, hce, hcv, vx_cls hW₁ hcl, st⟩
end
/-! ===== END ===== -/
/-! ===== BEGIN super.m(..) that may throw (follows va_callSU, va_runSU) ===== -/
section
variable {p : Program} {l : Launch} {e : Env} {R : Room} {s : State} {m : MethodId} {args : Array Value} {below : List Frame} {meth : Method} {c : Code} {H : Heap} {locs : List Loc} {cells slots : Nat}
theorem vx_callSU {T : State} {locs : List Loc} {cells slots : Nat} (X : Stand p l e R s m args below meth c T locs cells slots) (hexec : p.tables.exec = Jvm.exec) {own : String} {index : Nat} {y : MethodName} {bytes : ByteArray} {maxL : Nat} {ret : Option FieldType}
    (hown : s.vm.findClass own = some m.cls) (hlink : (Cond.methodLink own index y).before args s = true) (hsame : (Cond.sameMethod y.cls y.cls y.name y.desc).before args s = true) (hsup : (Cond.superclass own y.cls).before args s = true)
    (hinst : (Cond.instanceMethod y).before args s = true) (hcode : (Cond.code y bytes maxL ret).before args s = true) (hno : y.name ≠ "<init>")
    {W : Nat} {Pre : Pt → Array Value → Prop} {Post : Pt → Array Value → Option Value → Pt → Prop} {PostX : Pt → Array Value → Addr → Pt → Prop} (hK : vx_Back l R p e below s args y 3 W Pre Post PostX)
    {b : Addr} {cellB : Cell} {kB : Class} (hcell : T.heap[b]? = some cellB) (hobj : cellB.vm.isStatics = false) (hkB : s.vm.classes[cellB.cls]? = some kB)
    {g : JFrame} (hg : g.method = m) (hsize : g.locals.size = c.maxLocals) {argsL rest : List Value} (hlen : ∀ sig, parseMethodDescriptor y.desc = some sig → argsL.length = sig.parameters.length)
    (hstack : g.stack = argsL.reverse ++ .ref b :: rest) (hW : 2 * g.monitorRoom + (rest.map fun v => v.category).sum ≤ W) (hdg : decode c.code g.pc = .ok (.invokespecial index, 3))
    (hpre : ∀ vm₁, s.WarmedH vm₁ → Pre ⟨T.setVm vm₁, locs, cells, slots⟩ (Value.ref b :: argsL).toArray) :
    (∃ (v : Option Value) (vm₁ : Vm) (B : Pt), s.WarmedH vm₁ ∧ Stand p l e R s m args below meth c B.U B.locs B.cells B.slots ∧ Post ⟨T.setVm vm₁, locs, cells, slots⟩ (Value.ref b :: argsL).toArray v B ∧
      ∀ target, Steps p.tables e below (B.U.setTop { g with pc := g.pc + 3, stack := v.toList ++ rest }) target → Steps p.tables e below (T.setTop g) target) ∨
    (∃ (q : Addr) (vm₁ : Vm) (B : Pt), s.WarmedH vm₁ ∧ Stand p l e R s m args below meth c B.U B.locs B.cells B.slots ∧ PostX ⟨T.setVm vm₁, locs, cells, slots⟩ (Value.ref b :: argsL).toArray q B ∧
      Steps p.tables e below (T.setTop g) ((B.U.setTop { g with stack := rest }).pushFrame (.throwing q))) := by
  obtain ⟨mk, methM, hnamed, hmethM, hstM, habM⟩ := Cond.instanceMethod_spec hinst
  obtain ⟨methM', cM, hmethM', -, -, -, -, -, -, hsigM⟩ := Cond.code_spec hnamed hcode
  cases hmethM.symm.trans hmethM'
  obtain ⟨ps, dk, kp, hps, hdk, hkp, hsuper, -, -, hnid⟩ := Cond.superclass_spec hown hsup
  have hn : s.methodNamed? ⟨y.cls, y.name, y.desc⟩ = some mk := hnamed
  have hpm : ps = mk.cls := Option.some.inj (hps.symm.trans (findClass_of_methodNamed hnamed))
  have hsub : s.vm.isSubclass ps mk.cls = true := by rw [hpm]; simp [Vm.isSubclass, Vm.isSubclassAux]
  obtain ⟨vm₁, X₁, hstep₁⟩ := X.invokespecialUp hexec hown hlink hsame hn hmethM hstM habM hno hdk hnid hps hsuper hsub (a := b) (cell := cellB) hcell
    (fun z h => by rw [h] at hobj; cases hobj) hkB (g := g) hg (argsL := argsL) (rest := rest) (hlen _ hsigM) hstack hdg
  rcases hK m meth c ⟨T.setVm vm₁, locs, cells, slots⟩ { g with stack := rest } (.invokespecial index) mk (Value.ref b :: argsL).toArray X₁ hg hsize hdg hW (X₁.named hnamed) (hpre vm₁ X₁.warmed) with ⟨v, B, X', hpost, hsteps⟩ | ⟨q, B, X', hpost, hsteps⟩
  · exact Or.inl ⟨v, vm₁, B, X₁.warmed, X', hpost, fun target h => hstep₁ _ (by rw [doInvoke_state]; exact hsteps.trans h)⟩
  · exact Or.inr ⟨q, vm₁, B, X₁.warmed, X', hpost, hstep₁ _ (by rw [doInvoke_state]; exact hsteps)⟩
theorem vx_runSU {y : MethodName} {bytes cc : ByteArray} {maxL nL mc ms n index : Nat} {ret : Option FieldType} {ws : List Cond} {rm : Room} {Pc : Array Value → State → Prop} {Qc : Array Value → State → Outcome → State → Prop} {XC : String → State → State → Prop} {free : Addr → Prop} {Ts : List Cond} {own C : String} {cC : ClassId} {b : Addr} {As rest : List Value} {g : JFrame}
    (hat : ClassAt s C cC) (S : CallFix p m c cc nL s args Ts own) (hM : vx_Met l y ws rm Pc Qc XC mc ms free) (cw : va_CS R s args own index y bytes maxL ret ws rm mc ms n) (hp : PreV s H C b Pc As)
    (hg : g.method = m) (hn : As.length = n) (hsize : g.locals.size = nL) (hstack : g.stack = As.reverse ++ .ref b :: rest) (hW : 2 * g.monitorRoom + (rest.map fun v => v.category).sum ≤ 8) (hdg : decode cc g.pc = .ok (.invokespecial index, 3)) (hf : cells + mc ≤ R.cells ∧ slots + ms ≤ R.slots) :
    vx_Run p l e R s m args below meth c H locs cells slots mc ms g rest (Qc (Value.ref b :: As).toArray) XC free := by
  obtain ⟨⟨hrc, hrs, hfr, hlo, hws, hcw⟩, hl1, hl2, hl3, hl4, hini, hcode, hno, hlen⟩ := cw
  have hK : vx_Back l R p e below s args y 3 8 (PreOf R mc ms Pc) (PostOf Qc mc ms free) (vx_Post XC mc ms free) := vx_back (bytes := bytes) (maxL := maxL) (ret := ret) hM hp.1 hrc hrs hfr hlo hws hcw (fun a' U hW => word_at hW (Or.inl (by first | rfl | simp [Cond.onTables, Cond.keeps, Cond.steady])) hini)
  obtain ⟨hx, hb, hml, ho, -⟩ := S
  obtain ⟨-, ⟨cellB, hcB, hoB, hclB⟩, hPc⟩ := hp
  obtain ⟨hfc, kB, hkB, -⟩ := hat
  cases hfc.symm.trans hclB
  intro T hT X
  rcases vx_callSU X hx (bytes := bytes) (maxL := maxL) (ret := ret) ho hl1 hl2 hl3 hl4 hcode hno hK (by rw [hT]; exact hcB) hoB hkB hg (hsize.trans hml.symm) (argsL := As) (rest := rest) (fun sig h => hn.trans (hlen sig h)) hstack hW (by rw [hb]; exact hdg)
    (fun vm₁ hW₁ => ⟨hf.1, hf.2, hPc (T.setVm vm₁) hT hW₁⟩) with ⟨v, vm₁, ⟨U', l2, c2, s2⟩, hW₁, X', ⟨g', mk, t, L, e1, e2, hq, h1, hL, h2, h3⟩, st⟩ | ⟨q, vm₁, ⟨U', l2, c2, s2⟩, hW₁, X', ⟨g', mk, t, L, E, ce, e1, e2, hq, hce, hcv, hcl, h1, hL, h2, h3⟩, st⟩
  · dsimp only [Pt.U, Pt.locs, Pt.cells, Pt.slots] at X' e1 e2 h1 h2 h3 st
    subst h1; subst h2; subst h3
    exact Or.inl ⟨v, (T.setVm vm₁).calling g' mk (Value.ref b :: As).toArray, t, U', L, hT, X', hL, e1, e2, hq, st⟩
  · dsimp only [Pt.U, Pt.locs, Pt.cells, Pt.slots] at X' e1 e2 h1 h2 h3 st hcl
    subst h1; subst h2; subst h3
    exact Or.inr ⟨q, (T.setVm vm₁).calling g' mk (Value.ref b :: As).toArray, t, U', L, E, ce, hT, X', hL, e1, e2, hq, hce, hcv, vx_cls hW₁ hcl, st⟩
end
/-! ===== END ===== -/
/-! ===== BEGIN a private method of a nest mate that may throw (follows va_callVN, va_callSN, va_runVN, va_runSN) ===== -/
section
variable {p : Program} {l : Launch} {e : Env} {R : Room} {s : State} {m : MethodId} {args : Array Value} {below : List Frame} {meth : Method} {c : Code} {H : Heap} {locs : List Loc} {cells slots : Nat}
variable {T : State}
theorem vx_callVN (X : Stand p l e R s m args below meth c T locs cells slots) (hexec : p.tables.exec = Jvm.exec) {own C : String} {index : Nat} {host : String} {y : MethodName} {bytes : ByteArray} {maxL : Nat} {ret : Option FieldType}
    (hown : s.vm.findClass own = some m.cls) (hlink : (Cond.methodLinkNest own index y host).before args s = true) (hinst : (Cond.instanceMethod y).before args s = true) (hsel : (Cond.selects C y y).before args s = true)
    (hcode : (Cond.code y bytes maxL ret).before args s = true) (hy : y.cls ≠ "java/lang/invoke/MethodHandle" ∧ y.cls ≠ "java/lang/invoke/VarHandle")
    {W : Nat} {Pre : Pt → Array Value → Prop} {Post : Pt → Array Value → Option Value → Pt → Prop} {PostX : Pt → Array Value → Addr → Pt → Prop} (hK : vx_Back l R p e below s args y 3 W Pre Post PostX)
    {b : Addr} {cellB : Cell} (hcell : T.heap[b]? = some cellB) (hobj : cellB.vm.isStatics = false) (hcls : s.vm.findClass C = some cellB.cls)
    {g : JFrame} (hg : g.method = m) (hsize : g.locals.size = c.maxLocals) {argsL rest : List Value} (hlen : ∀ sig, parseMethodDescriptor y.desc = some sig → argsL.length = sig.parameters.length)
    (hstack : g.stack = argsL.reverse ++ .ref b :: rest) (hW : 2 * g.monitorRoom + (rest.map fun v => v.category).sum ≤ W) (hdg : decode c.code g.pc = .ok (.invokevirtual index, 3))
    (hpre : ∀ vm₁, s.WarmedH vm₁ → Pre ⟨T.setVm vm₁, locs, cells, slots⟩ (Value.ref b :: argsL).toArray) :
    (∃ (v : Option Value) (vm₁ : Vm) (B : Pt), s.WarmedH vm₁ ∧ Stand p l e R s m args below meth c B.U B.locs B.cells B.slots ∧ Post ⟨T.setVm vm₁, locs, cells, slots⟩ (Value.ref b :: argsL).toArray v B ∧
      ∀ target, Steps p.tables e below (B.U.setTop { g with pc := g.pc + 3, stack := v.toList ++ rest }) target → Steps p.tables e below (T.setTop g) target) ∨
    (∃ (q : Addr) (vm₁ : Vm) (B : Pt), s.WarmedH vm₁ ∧ Stand p l e R s m args below meth c B.U B.locs B.cells B.slots ∧ PostX ⟨T.setVm vm₁, locs, cells, slots⟩ (Value.ref b :: argsL).toArray q B ∧
      Steps p.tables e below (T.setTop g) ((B.U.setTop { g with stack := rest }).pushFrame (.throwing q))) := by
  obtain ⟨mk, methM, hnamed, hmethM, hstM, habM⟩ := Cond.instanceMethod_spec hinst
  obtain ⟨methM', cM, hmethM', -, -, -, -, -, -, hsigM⟩ := Cond.code_spec hnamed hcode
  cases hmethM.symm.trans hmethM'
  obtain ⟨c2, r2, m2, q1, q2, q3, q4, kP, hkP, hkPi⟩ := Cond.selects_spec hsel
  cases hcls.symm.trans q1
  cases (State.methodFound?_of_named hnamed hy).symm.trans q2
  cases hnamed.symm.trans q3
  have hselP : selectMethod e.platform s.vm cellB.cls mk = .method mk := by rw [Launch.admits_selectMethod X.admits]; exact q4
  obtain ⟨vm₁, X₁, hstep₁⟩ := X.invokevirtualNest hexec hown hlink hnamed hmethM hstM hkP hkPi hy (a := b) (cell := cellB) hcell
    (fun z h => by rw [h] at hobj; cases hobj) hselP hmethM habM hkP hkPi (g := g) hg (argsL := argsL) (rest := rest) (hlen _ hsigM) hstack hdg
  rcases hK m meth c ⟨T.setVm vm₁, locs, cells, slots⟩ { g with stack := rest } (.invokevirtual index) mk (Value.ref b :: argsL).toArray X₁ hg hsize hdg hW (X₁.named hnamed) (hpre vm₁ X₁.warmed) with ⟨v, B, X', hpost, hsteps⟩ | ⟨q, B, X', hpost, hsteps⟩
  · exact Or.inl ⟨v, vm₁, B, X₁.warmed, X', hpost, fun target h => hstep₁ _ fun acts => by rw [doInvoke_state]; exact hsteps.trans h⟩
  · exact Or.inr ⟨q, vm₁, B, X₁.warmed, X', hpost, hstep₁ _ fun acts => by rw [doInvoke_state]; exact hsteps⟩
theorem vx_callSN (X : Stand p l e R s m args below meth c T locs cells slots) (hexec : p.tables.exec = Jvm.exec) {own : String} {index : Nat} {host : String} {y : MethodName} {bytes : ByteArray} {maxL : Nat} {ret : Option FieldType}
    (hown : s.vm.findClass own = some m.cls) (hlink : (Cond.methodLinkNest own index y host).before args s = true) (hstat : (Cond.static y).before args s = true) (hinit : (Cond.initialized y.cls).before args s = true)
    (hcode : (Cond.code y bytes maxL ret).before args s = true) (hy : y.cls ≠ "java/lang/invoke/MethodHandle" ∧ y.cls ≠ "java/lang/invoke/VarHandle")
    {W : Nat} {Pre : Pt → Array Value → Prop} {Post : Pt → Array Value → Option Value → Pt → Prop} {PostX : Pt → Array Value → Addr → Pt → Prop} (hK : vx_Back l R p e below s args y 3 W Pre Post PostX)
    {g : JFrame} (hg : g.method = m) (hsize : g.locals.size = c.maxLocals) {argsL rest : List Value} (hlen : ∀ sig, parseMethodDescriptor y.desc = some sig → argsL.length = sig.parameters.length)
    (hstack : g.stack = argsL.reverse ++ rest) (hW : 2 * g.monitorRoom + (rest.map fun v => v.category).sum ≤ W) (hdg : decode c.code g.pc = .ok (.invokestatic index, 3))
    (hpre : ∀ vm₁, s.WarmedH vm₁ → Pre ⟨T.setVm vm₁, locs, cells, slots⟩ argsL.toArray) :
    (∃ (v : Option Value) (vm₁ : Vm) (B : Pt), s.WarmedH vm₁ ∧ Stand p l e R s m args below meth c B.U B.locs B.cells B.slots ∧ Post ⟨T.setVm vm₁, locs, cells, slots⟩ argsL.toArray v B ∧
      ∀ target, Steps p.tables e below (B.U.setTop { g with pc := g.pc + 3, stack := v.toList ++ rest }) target → Steps p.tables e below (T.setTop g) target) ∨
    (∃ (q : Addr) (vm₁ : Vm) (B : Pt), s.WarmedH vm₁ ∧ Stand p l e R s m args below meth c B.U B.locs B.cells B.slots ∧ PostX ⟨T.setVm vm₁, locs, cells, slots⟩ argsL.toArray q B ∧
      Steps p.tables e below (T.setTop g) ((B.U.setTop { g with stack := rest }).pushFrame (.throwing q))) := by
  obtain ⟨mk, hnamed⟩ := Cond.code_named hcode
  obtain ⟨methM, cM, hmethM, -, -, -, -, -, -, hsigM⟩ := Cond.code_spec hnamed hcode
  have hstatic : methM.isStatic = true := Cond.static_spec hnamed hmethM hstat
  obtain ⟨kP, hkP, -⟩ := className_of_methodNamed hnamed
  have hinitP : kP.init = .initialized := Cond.initialized_spec (findClass_of_methodNamed hnamed) hkP hinit
  obtain ⟨vm₁, X₁, hstep₁⟩ := X.invokestaticNest hexec hown hlink hnamed hmethM hstatic hkP hinitP hy (g := g) hg (argsL := argsL) (rest := rest) (hlen _ hsigM) hstack hdg
  rcases hK m meth c ⟨T.setVm vm₁, locs, cells, slots⟩ { g with stack := rest } (.invokestatic index) mk argsL.toArray X₁ hg hsize hdg hW (X₁.named hnamed) (hpre vm₁ X₁.warmed) with ⟨v, B, X', hpost, hsteps⟩ | ⟨q, B, X', hpost, hsteps⟩
  · exact Or.inl ⟨v, vm₁, B, X₁.warmed, X', hpost, fun target h => hstep₁ _ fun acts => by rw [doInvoke_state]; exact hsteps.trans h⟩
  · exact Or.inr ⟨q, vm₁, B, X₁.warmed, X', hpost, hstep₁ _ fun acts => by rw [doInvoke_state]; exact hsteps⟩
theorem vx_runVN {y : MethodName} {bytes cc : ByteArray} {maxL nL mc ms n index : Nat} {ret : Option FieldType} {ws : List Cond} {rm : Room} {Pc : Array Value → State → Prop} {Qc : Array Value → State → Outcome → State → Prop} {XC : String → State → State → Prop} {free : Addr → Prop} {Ts : List Cond} {own C host : String} {b : Addr} {As rest : List Value} {g : JFrame}
    (S : CallFix p m c cc nL s args Ts own) (hM : vx_Met l y ws rm Pc Qc XC mc ms free) (cw : va_CN R s args own index y host bytes maxL ret ws rm mc ms n ∧ (Cond.instanceMethod y).before args s = true ∧ (Cond.selects C y y).before args s = true) (hp : PreV s H C b Pc As)
    (hg : g.method = m) (hn : As.length = n) (hsize : g.locals.size = nL) (hstack : g.stack = As.reverse ++ .ref b :: rest) (hW : 2 * g.monitorRoom + (rest.map fun v => v.category).sum ≤ 8) (hdg : decode cc g.pc = .ok (.invokevirtual index, 3)) (hf : cells + mc ≤ R.cells ∧ slots + ms ≤ R.slots) :
    vx_Run p l e R s m args below meth c H locs cells slots mc ms g rest (Qc (Value.ref b :: As).toArray) XC free := by
  obtain ⟨⟨⟨hrc, hrs, hfr, hlo, hws, hcw⟩, hcode, hini, hy, hlen, hl⟩, hx1, hx2⟩ := cw
  have hK : vx_Back l R p e below s args y 3 8 (PreOf R mc ms Pc) (PostOf Qc mc ms free) (vx_Post XC mc ms free) := vx_back (bytes := bytes) (maxL := maxL) (ret := ret) hM hp.1 hrc hrs hfr hlo hws hcw (fun a' U hW => word_at hW (Or.inl (by first | rfl | simp [Cond.onTables, Cond.keeps, Cond.steady])) hini)
  obtain ⟨hx, hb, hml, ho, -⟩ := S
  obtain ⟨-, ⟨cellB, hcB, hoB, hclB⟩, hPc⟩ := hp
  intro T hT X
  rcases vx_callVN X hx (C := C) (bytes := bytes) (maxL := maxL) (ret := ret) ho hl hx1 hx2 hcode hy hK (by rw [hT]; exact hcB) hoB hclB hg (hsize.trans hml.symm) (argsL := As) (rest := rest) (fun sig h => hn.trans (hlen sig h)) hstack hW (by rw [hb]; exact hdg)
    (fun vm₁ hW₁ => ⟨hf.1, hf.2, hPc (T.setVm vm₁) hT hW₁⟩) with ⟨v, vm₁, ⟨U', l2, c2, s2⟩, hW₁, X', ⟨g', mk, t, L, e1, e2, hq, h1, hL, h2, h3⟩, st⟩ | ⟨q, vm₁, ⟨U', l2, c2, s2⟩, hW₁, X', ⟨g', mk, t, L, E, ce, e1, e2, hq, hce, hcv, hcl, h1, hL, h2, h3⟩, st⟩
  · dsimp only [Pt.U, Pt.locs, Pt.cells, Pt.slots] at X' e1 e2 h1 h2 h3 st
    subst h1; subst h2; subst h3
    exact Or.inl ⟨v, (T.setVm vm₁).calling g' mk (Value.ref b :: As).toArray, t, U', L, hT, X', hL, e1, e2, hq, st⟩
  · dsimp only [Pt.U, Pt.locs, Pt.cells, Pt.slots] at X' e1 e2 h1 h2 h3 st hcl
    subst h1; subst h2; subst h3
    exact Or.inr ⟨q, (T.setVm vm₁).calling g' mk (Value.ref b :: As).toArray, t, U', L, E, ce, hT, X', hL, e1, e2, hq, hce, hcv, vx_cls hW₁ hcl, st⟩
theorem vx_runSN {y : MethodName} {bytes cc : ByteArray} {maxL nL mc ms n index : Nat} {ret : Option FieldType} {ws : List Cond} {rm : Room} {Pc : Array Value → State → Prop} {Qc : Array Value → State → Outcome → State → Prop} {XC : String → State → State → Prop} {free : Addr → Prop} {Ts : List Cond} {own host : String} {As rest : List Value} {g : JFrame}
    (S : CallFix p m c cc nL s args Ts own) (hM : vx_Met l y ws rm Pc Qc XC mc ms free) (cw : va_CN R s args own index y host bytes maxL ret ws rm mc ms n ∧ (Cond.static y).before args s = true ∧ True) (hp : PreS s H Pc As)
    (hg : g.method = m) (hn : As.length = n) (hsize : g.locals.size = nL) (hstack : g.stack = As.reverse ++ rest) (hW : 2 * g.monitorRoom + (rest.map fun v => v.category).sum ≤ 8) (hdg : decode cc g.pc = .ok (.invokestatic index, 3)) (hf : cells + mc ≤ R.cells ∧ slots + ms ≤ R.slots) :
    vx_Run p l e R s m args below meth c H locs cells slots mc ms g rest (Qc As.toArray) XC free := by
  obtain ⟨⟨⟨hrc, hrs, hfr, hlo, hws, hcw⟩, hcode, hini, hy, hlen, hl⟩, hx1, hx2⟩ := cw
  have hK : vx_Back l R p e below s args y 3 8 (PreOf R mc ms Pc) (PostOf Qc mc ms free) (vx_Post XC mc ms free) := vx_back (bytes := bytes) (maxL := maxL) (ret := ret) hM hp.1 hrc hrs hfr hlo hws hcw (fun a' U hW => word_at hW (Or.inl (by first | rfl | simp [Cond.onTables, Cond.keeps, Cond.steady])) hini)
  obtain ⟨hx, hb, hml, ho, -⟩ := S
  have hPc := hp.2
  intro T hT X
  rcases vx_callSN X hx (bytes := bytes) (maxL := maxL) (ret := ret) ho hl hx1 hini hcode hy hK hg (hsize.trans hml.symm) (argsL := As) (rest := rest) (fun sig h => hn.trans (hlen sig h)) hstack hW (by rw [hb]; exact hdg)
    (fun vm₁ hW₁ => ⟨hf.1, hf.2, hPc (T.setVm vm₁) hT hW₁⟩) with ⟨v, vm₁, ⟨U', l2, c2, s2⟩, hW₁, X', ⟨g', mk, t, L, e1, e2, hq, h1, hL, h2, h3⟩, st⟩ | ⟨q, vm₁, ⟨U', l2, c2, s2⟩, hW₁, X', ⟨g', mk, t, L, E, ce, e1, e2, hq, hce, hcv, hcl, h1, hL, h2, h3⟩, st⟩
  · dsimp only [Pt.U, Pt.locs, Pt.cells, Pt.slots] at X' e1 e2 h1 h2 h3 st
    subst h1; subst h2; subst h3
    exact Or.inl ⟨v, (T.setVm vm₁).calling g' mk As.toArray, t, U', L, hT, X', hL, e1, e2, hq, st⟩
  · dsimp only [Pt.U, Pt.locs, Pt.cells, Pt.slots] at X' e1 e2 h1 h2 h3 st hcl
    subst h1; subst h2; subst h3
    exact Or.inr ⟨q, (T.setVm vm₁).calling g' mk As.toArray, t, U', L, E, ce, hT, X', hL, e1, e2, hq, hce, hcv, vx_cls hW₁ hcl, st⟩
end
/-! ===== END ===== -/
/-! ===== BEGIN calls by an interface of methods that may throw (vx_callIF, vx_runF follow va_callIF, va_runF of this kit) ===== -/
section
variable {p : Program} {l : Launch} {e : Env} {R : Room} {s : State} {m : MethodId} {args : Array Value} {below : List Frame} {meth : Method} {c : Code} {H : Heap} {locs : List Loc} {cells slots : Nat} {Q : State → Prop}
variable {mc ms : Nat} {free : Addr → Prop} {A0 A1 : Nat → Prop} {H0 : Heap} {a : Array Value} {pc : Nat} {ls : Array Slot} {st0 rest : List Value}
def vx_Run5 (p : Program) (l : Launch) (e : Env) (R : Room) (s : State) (m : MethodId) (args : Array Value) (below : List Frame) (meth : Method) (c : Code) (H : Heap) (locs : List Loc) (cells slots mc ms : Nat) (g : JFrame) (rest : List Value) (Qa : State → Outcome → State → Prop) (XC : String → State → State → Prop) (free : Addr → Prop) : Prop :=
  ∀ T : State, T.heap = H → Stand p l e R s m args below meth c T locs cells slots →
    (∃ (v : Option Value) (st₀ t T' : State) (L : List Loc), st₀.heap = H ∧ Stand p l e R s m args below meth c T' (locs ++ L) (cells + mc) (slots + ms) ∧ (∀ q ∈ L, free q.base) ∧ T'.heap = t.heap ∧ T'.vm = t.vm ∧ Qa st₀ (.returned v) t ∧
      Goes p e below T g T' { g with pc := g.pc + 5, stack := v.toList ++ rest }) ∨
    (∃ (q : Addr) (st₀ t T' : State) (L : List Loc) (E : String) (ce : Cell), st₀.heap = H ∧ Stand p l e R s m args below meth c T' (locs ++ L) (cells + mc) (slots + ms) ∧ (∀ z ∈ L, free z.base) ∧ T'.heap = t.heap ∧ T'.vm = t.vm ∧ XC E st₀ t ∧ t.heap[q]? = some ce ∧ ce.vm = .none ∧ s.vm.findClass E = some ce.cls ∧
      Steps p.tables e below (T.setTop g) ((T'.setTop { g with stack := rest }).pushFrame (.throwing q)))
theorem vx_callIF {T : State} (X : Stand p l e R s m args below meth c T locs cells slots) (hexec : p.tables.exec = Jvm.exec) {own C : String} {index count : Nat} {x y : MethodName} {bytes : ByteArray} {maxL : Nat} {ret : Option FieldType}
    (hown : s.vm.findClass own = some m.cls) (hlink : (Cond.methodLink own index x).before args s = true) (hdecl : (Cond.declares x).before args s = true) (hface : (Cond.interfaceMethod x.cls x.cls x.name x.desc).before args s = true)
    (hsel : (Cond.selects C x y).before args s = true) (hinst : (Cond.instanceMethod y).before args s = true) (hpub : (Cond.publicMethod y).before args s = true) (hunh : (Cond.unhidden C x.name x.desc).before args s = true)
    (hcast : (Cond.castable C x.cls).before args s = true) (hcode : (Cond.code y bytes maxL ret).before args s = true) (hx : x.cls ≠ "java/lang/invoke/MethodHandle" ∧ x.cls ≠ "java/lang/invoke/VarHandle")
    {W9 : Nat} {Pre : Pt → Array Value → Prop} {Post : Pt → Array Value → Option Value → Pt → Prop} {PostX : Pt → Array Value → Addr → Pt → Prop} (hK : vx_Back l R p e below s args y 5 W9 Pre Post PostX)
    {b : Addr} {cellB : Cell} {kB : Class} (hcell : T.heap[b]? = some cellB) (hobj : cellB.vm.isStatics = false) (hcls : s.vm.findClass C = some cellB.cls) (hkB : s.vm.classes[cellB.cls]? = some kB)
    {g : JFrame} (hg : g.method = m) (hsize : g.locals.size = c.maxLocals) {argsL rest : List Value} (hlen : ∀ sig, parseMethodDescriptor x.desc = some sig → argsL.length = sig.parameters.length)
    (hstack : g.stack = argsL.reverse ++ .ref b :: rest) (hW : 2 * g.monitorRoom + (rest.map fun v => v.category).sum ≤ W9) (hdg : decode c.code g.pc = .ok (.invokeinterface index count, 5))
    (hpre : ∀ vm₁, s.WarmedH vm₁ → Pre ⟨T.setVm vm₁, locs, cells, slots⟩ (Value.ref b :: argsL).toArray) :
    (∃ (v : Option Value) (vm₁ : Vm) (B : Pt), s.WarmedH vm₁ ∧ Stand p l e R s m args below meth c B.U B.locs B.cells B.slots ∧ Post ⟨T.setVm vm₁, locs, cells, slots⟩ (Value.ref b :: argsL).toArray v B ∧
      ∀ target, Steps p.tables e below (B.U.setTop { g with pc := g.pc + 5, stack := v.toList ++ rest }) target → Steps p.tables e below (T.setTop g) target) ∨
    (∃ (q : Addr) (vm₁ : Vm) (B : Pt), s.WarmedH vm₁ ∧ Stand p l e R s m args below meth c B.U B.locs B.cells B.slots ∧ PostX ⟨T.setVm vm₁, locs, cells, slots⟩ (Value.ref b :: argsL).toArray q B ∧
      Steps p.tables e below (T.setTop g) ((B.U.setTop { g with stack := rest }).pushFrame (.throwing q))) := by
  obtain ⟨r0, r, hn, hrm, hstR, hsigR⟩ := Cond.declares_spec hdecl
  obtain ⟨cL, kL, r1, hcL, hkL, hiL, hfoundL, hn1⟩ := Cond.interfaceMethod_spec hface
  cases hn.symm.trans hn1
  have hr0cls : r0.cls = cL := Option.some.inj ((findClass_of_methodNamed hn).symm.trans hcL)
  obtain ⟨hnameR, hdescR⟩ := name_of_methodNamed hn hrm
  obtain ⟨mk, methM, hnamed, hmethM, -, habM⟩ := Cond.instanceMethod_spec hinst
  obtain ⟨c2, r2, m2, q1, q2, q3, q4, -⟩ := Cond.selects_spec hsel
  cases hcls.symm.trans q1
  cases hfoundL.symm.trans q2
  cases hnamed.symm.trans q3
  have hselP : selectMethod e.platform s.vm cellB.cls r0 = .method mk := by rw [Launch.admits_selectMethod X.admits]; exact q4
  have hpubM : hasFlag methM.accessFlags Acc.public_ = true := Cond.publicMethod_spec hnamed hmethM hpub
  have hway : ((cellB.cls :: s.vm.superclasses cellB.cls).any fun k => (declaredIn s.vm r.name r.desc k).any fun (_, z) => z.isPrivate || z.isStatic) = false := by
    rw [hnameR, hdescR]; exact Cond.unhidden_spec hcls hunh
  obtain ⟨c3, t3, w1, w2, w3⟩ := Cond.castable_spec hcast
  cases hcls.symm.trans w1
  cases hcL.symm.trans w2
  obtain ⟨vm₁, X₁, hstep₁⟩ := X.invokeinterface hexec hown hlink hn hrm hstR (by rw [hr0cls]; exact hkL) hiL hx (a := b) (cell := cellB) (kcell := kB) hcell
    (fun z h => by rw [h] at hobj; cases hobj) hkB (by rw [hr0cls]; exact w3) hselP hmethM hway hpubM habM (g := g) hg (argsL := argsL) (rest := rest) (hlen _ hsigR) hstack hdg
  rcases hK m meth c ⟨T.setVm vm₁, locs, cells, slots⟩ { g with stack := rest } (.invokeinterface index count) mk (Value.ref b :: argsL).toArray X₁ hg hsize hdg hW (X₁.named hnamed) (hpre vm₁ X₁.warmed) with ⟨v, B, X', hpost, hsteps⟩ | ⟨q, B, X', hpost, hsteps⟩
  · exact Or.inl ⟨v, vm₁, B, X₁.warmed, X', hpost, fun target h => hstep₁ _ fun acts => by rw [doInvoke_state]; exact hsteps.trans h⟩
  · exact Or.inr ⟨q, vm₁, B, X₁.warmed, X', hpost, hstep₁ _ fun acts => by rw [doInvoke_state]; exact hsteps⟩
theorem vx_runF {x y : MethodName} {bytes cc : ByteArray} {maxL nL mc ms n index count : Nat} {ret : Option FieldType} {ws : List Cond} {rm : Room} {Pc : Array Value → State → Prop} {Qc : Array Value → State → Outcome → State → Prop} {XC : String → State → State → Prop} {free : Addr → Prop} {Ts : List Cond} {own C : String} {cC : ClassId} {b : Addr} {As rest : List Value} {g : JFrame}
    (hat : ClassAt s C cC) (S : CallFix p m c cc nL s args Ts own) (hM : vx_Met l y ws rm Pc Qc XC mc ms free) (cw : va_CI R s args own C index x y bytes maxL ret ws rm mc ms n) (hp : PreV s H C b Pc As)
    (hg : g.method = m) (hn : As.length = n) (hsize : g.locals.size = nL) (hstack : g.stack = As.reverse ++ .ref b :: rest) (hW : 2 * g.monitorRoom + (rest.map fun v => v.category).sum ≤ 8) (hdg : decode cc g.pc = .ok (.invokeinterface index count, 5)) (hf : cells + mc ≤ R.cells ∧ slots + ms ≤ R.slots) :
    vx_Run5 p l e R s m args below meth c H locs cells slots mc ms g rest (Qc (Value.ref b :: As).toArray) XC free := by
  obtain ⟨hrc, hrs, hfr, hlo, hws, hcw⟩ := cw.back
  have hini := cw.init
  have hK : vx_Back l R p e below s args y 5 8 (PreOf R mc ms Pc) (PostOf Qc mc ms free) (vx_Post XC mc ms free) := vx_back (bytes := bytes) (maxL := maxL) (ret := ret) hM hp.1 hrc hrs hfr hlo hws hcw (fun a' U hW => word_at hW (Or.inl (by first | rfl | simp [Cond.onTables, Cond.keeps, Cond.steady])) hini)
  obtain ⟨hx, hb, hml, ho, -⟩ := S
  obtain ⟨-, ⟨cellB, hcB, hoB, hclB⟩, hPc⟩ := hp
  obtain ⟨hfc, kB, hkB, -⟩ := hat
  cases hfc.symm.trans hclB
  intro T hT X
  rcases vx_callIF X hx (C := C) (bytes := bytes) (maxL := maxL) (ret := ret) ho cw.link cw.decl cw.face cw.sel cw.inst cw.pub cw.unh cw.cast cw.code cw.notMH hK (by rw [hT]; exact hcB) hoB hclB hkB hg (hsize.trans hml.symm) (argsL := As) (rest := rest) (fun sig h => hn.trans (cw.len sig h)) hstack hW (by rw [hb]; exact hdg)
    (fun vm₁ hW₁ => ⟨hf.1, hf.2, hPc (T.setVm vm₁) hT hW₁⟩) with ⟨v, vm₁, ⟨U', l2, c2, s2⟩, hW₁, X', ⟨g', mk, t, L, e1, e2, hq, h1, hL, h2, h3⟩, st⟩ | ⟨q, vm₁, ⟨U', l2, c2, s2⟩, hW₁, X', ⟨g', mk, t, L, E, ce, e1, e2, hq, hce, hcv, hcl, h1, hL, h2, h3⟩, st⟩
  · dsimp only [Pt.U, Pt.locs, Pt.cells, Pt.slots] at X' e1 e2 h1 h2 h3 st
    subst h1; subst h2; subst h3
    exact Or.inl ⟨v, (T.setVm vm₁).calling g' mk (Value.ref b :: As).toArray, t, U', L, hT, X', hL, e1, e2, hq, st⟩
  · dsimp only [Pt.U, Pt.locs, Pt.cells, Pt.slots] at X' e1 e2 h1 h2 h3 st hcl
    subst h1; subst h2; subst h3
    exact Or.inr ⟨q, (T.setVm vm₁).calling g' mk (Value.ref b :: As).toArray, t, U', L, E, ce, hT, X', hL, e1, e2, hq, hce, hcv, vx_cls hW₁ hcl, st⟩
theorem vx_callFv {S SX : Type} {post : S → Prop} {px : SX → Prop} {B : S → State → Prop} {BX : String → SX → State → Prop} {AX : Nat → Prop} (hr : vx_Run5 p l e R s m args below meth c H locs cells slots mc ms (F0 m pc ls st0) rest (va_Qv post B A1 a) (vx_X px BX AX) free) (hS : va_S A0 H0 H locs) (hA : ∀ q, q < H.size → A1 q → A0 q) (hf : ∀ q, free q → A0 q) (hAX : ∀ q, q < H.size → AX q → A0 q)
    (kx : ∀ (E : String) (ce : Cell) (q9 : Addr) (u : SX) (t : State) (H1 : Heap) (locs1 : List Loc), t.heap = H1 → s.vm.Alike t.vm → px u → BX E u t → H.size ≤ H1.size → (∀ q : Nat, q < H.size → ¬ AX q → H1[q]? = H[q]?) → va_S A0 H0 H1 locs1 → H1[q9]? = some ce → ce.vm = .none → s.vm.findClass E = some ce.cls → vx_W p l e R s m args below meth c H1 locs1 (cells + mc) (slots + ms) Q (F0 m pc ls rest) q9)
    (kk : ∀ (u : S) (t : State) (H1 : Heap) (locs1 : List Loc), t.heap = H1 → s.vm.Alike t.vm → post u → B u t → H.size ≤ H1.size → (∀ q : Nat, q < H.size → ¬ A1 q → H1[q]? = H[q]?) → va_S A0 H0 H1 locs1 → W p l e R s m args below meth c H1 locs1 (cells + mc) (slots + ms) Q (F0 m (pc + 5) ls (rest))) : W p l e R s m args below meth c H locs cells slots Q (F0 m pc ls st0) := by
  intro T hT X
  rcases hr T hT X with ⟨v, st₀, t, T', L, h0, X', hL, e1, e2, ⟨⟨u, hv, hp, hb⟩, hF⟩, st⟩ | ⟨q, st₀, t, T', L, E, ce, h0, X', hL, e1, e2, ⟨u, hp, hb, hF⟩, hce, hcv, hcl, st⟩
  · cases hv
    obtain ⟨k1, k2, k3⟩ := vx_keep h0 e1 hS hA hf hL hF
    obtain ⟨t2, a1, b1⟩ := kk u t T'.heap (locs ++ L) e1.symm (by rw [← e2]; exact X'.warmed.alike) hp hb k1 k2 k3 T' rfl X'
    exact ⟨t2, st t2 a1, b1⟩
  · obtain ⟨k1, k2, k3⟩ := vx_keep h0 e1 hS hAX hf hL hF
    obtain ⟨t2, a1, b1⟩ := kx E ce q u t T'.heap (locs ++ L) e1.symm (by rw [← e2]; exact X'.warmed.alike) hp hb k1 k2 k3 (by rw [e1]; exact hce) hcv hcl T' rfl X'
    exact ⟨t2, st.trans a1, b1⟩
theorem vx_callFi {S SX : Type} {post : Int32 → S → Prop} {px : SX → Prop} {B : S → State → Prop} {BX : String → SX → State → Prop} {AX : Nat → Prop} (hr : vx_Run5 p l e R s m args below meth c H locs cells slots mc ms (F0 m pc ls st0) rest (va_Qi post B A1 a) (vx_X px BX AX) free) (hS : va_S A0 H0 H locs) (hA : ∀ q, q < H.size → A1 q → A0 q) (hf : ∀ q, free q → A0 q) (hAX : ∀ q, q < H.size → AX q → A0 q)
    (kx : ∀ (E : String) (ce : Cell) (q9 : Addr) (u : SX) (t : State) (H1 : Heap) (locs1 : List Loc), t.heap = H1 → s.vm.Alike t.vm → px u → BX E u t → H.size ≤ H1.size → (∀ q : Nat, q < H.size → ¬ AX q → H1[q]? = H[q]?) → va_S A0 H0 H1 locs1 → H1[q9]? = some ce → ce.vm = .none → s.vm.findClass E = some ce.cls → vx_W p l e R s m args below meth c H1 locs1 (cells + mc) (slots + ms) Q (F0 m pc ls rest) q9)
    (kk : ∀ (r : Int32) (u : S) (t : State) (H1 : Heap) (locs1 : List Loc), t.heap = H1 → s.vm.Alike t.vm → post r u → B u t → H.size ≤ H1.size → (∀ q : Nat, q < H.size → ¬ A1 q → H1[q]? = H[q]?) → va_S A0 H0 H1 locs1 → W p l e R s m args below meth c H1 locs1 (cells + mc) (slots + ms) Q (F0 m (pc + 5) ls (.int r :: rest))) : W p l e R s m args below meth c H locs cells slots Q (F0 m pc ls st0) := by
  intro T hT X
  rcases hr T hT X with ⟨v, st₀, t, T', L, h0, X', hL, e1, e2, ⟨⟨r, u, hv, hp, hb⟩, hF⟩, st⟩ | ⟨q, st₀, t, T', L, E, ce, h0, X', hL, e1, e2, ⟨u, hp, hb, hF⟩, hce, hcv, hcl, st⟩
  · cases hv
    obtain ⟨k1, k2, k3⟩ := vx_keep h0 e1 hS hA hf hL hF
    obtain ⟨t2, a1, b1⟩ := kk r u t T'.heap (locs ++ L) e1.symm (by rw [← e2]; exact X'.warmed.alike) hp hb k1 k2 k3 T' rfl X'
    exact ⟨t2, st t2 a1, b1⟩
  · obtain ⟨k1, k2, k3⟩ := vx_keep h0 e1 hS hAX hf hL hF
    obtain ⟨t2, a1, b1⟩ := kx E ce q u t T'.heap (locs ++ L) e1.symm (by rw [← e2]; exact X'.warmed.alike) hp hb k1 k2 k3 (by rw [e1]; exact hce) hcv hcl T' rfl X'
    exact ⟨t2, st.trans a1, b1⟩
theorem vx_callFl {S SX : Type} {post : Int64 → S → Prop} {px : SX → Prop} {B : S → State → Prop} {BX : String → SX → State → Prop} {AX : Nat → Prop} (hr : vx_Run5 p l e R s m args below meth c H locs cells slots mc ms (F0 m pc ls st0) rest (va_Ql post B A1 a) (vx_X px BX AX) free) (hS : va_S A0 H0 H locs) (hA : ∀ q, q < H.size → A1 q → A0 q) (hf : ∀ q, free q → A0 q) (hAX : ∀ q, q < H.size → AX q → A0 q)
    (kx : ∀ (E : String) (ce : Cell) (q9 : Addr) (u : SX) (t : State) (H1 : Heap) (locs1 : List Loc), t.heap = H1 → s.vm.Alike t.vm → px u → BX E u t → H.size ≤ H1.size → (∀ q : Nat, q < H.size → ¬ AX q → H1[q]? = H[q]?) → va_S A0 H0 H1 locs1 → H1[q9]? = some ce → ce.vm = .none → s.vm.findClass E = some ce.cls → vx_W p l e R s m args below meth c H1 locs1 (cells + mc) (slots + ms) Q (F0 m pc ls rest) q9)
    (kk : ∀ (r : Int64) (u : S) (t : State) (H1 : Heap) (locs1 : List Loc), t.heap = H1 → s.vm.Alike t.vm → post r u → B u t → H.size ≤ H1.size → (∀ q : Nat, q < H.size → ¬ A1 q → H1[q]? = H[q]?) → va_S A0 H0 H1 locs1 → W p l e R s m args below meth c H1 locs1 (cells + mc) (slots + ms) Q (F0 m (pc + 5) ls (.long r :: rest))) : W p l e R s m args below meth c H locs cells slots Q (F0 m pc ls st0) := by
  intro T hT X
  rcases hr T hT X with ⟨v, st₀, t, T', L, h0, X', hL, e1, e2, ⟨⟨r, u, hv, hp, hb⟩, hF⟩, st⟩ | ⟨q, st₀, t, T', L, E, ce, h0, X', hL, e1, e2, ⟨u, hp, hb, hF⟩, hce, hcv, hcl, st⟩
  · cases hv
    obtain ⟨k1, k2, k3⟩ := vx_keep h0 e1 hS hA hf hL hF
    obtain ⟨t2, a1, b1⟩ := kk r u t T'.heap (locs ++ L) e1.symm (by rw [← e2]; exact X'.warmed.alike) hp hb k1 k2 k3 T' rfl X'
    exact ⟨t2, st t2 a1, b1⟩
  · obtain ⟨k1, k2, k3⟩ := vx_keep h0 e1 hS hAX hf hL hF
    obtain ⟨t2, a1, b1⟩ := kx E ce q u t T'.heap (locs ++ L) e1.symm (by rw [← e2]; exact X'.warmed.alike) hp hb k1 k2 k3 (by rw [e1]; exact hce) hcv hcl T' rfl X'
    exact ⟨t2, st.trans a1, b1⟩
theorem vx_callFf {S SX : Type} {post : UInt32 → S → Prop} {px : SX → Prop} {B : S → State → Prop} {BX : String → SX → State → Prop} {AX : Nat → Prop} (hr : vx_Run5 p l e R s m args below meth c H locs cells slots mc ms (F0 m pc ls st0) rest (va_Qf post B A1 a) (vx_X px BX AX) free) (hS : va_S A0 H0 H locs) (hA : ∀ q, q < H.size → A1 q → A0 q) (hf : ∀ q, free q → A0 q) (hAX : ∀ q, q < H.size → AX q → A0 q)
    (kx : ∀ (E : String) (ce : Cell) (q9 : Addr) (u : SX) (t : State) (H1 : Heap) (locs1 : List Loc), t.heap = H1 → s.vm.Alike t.vm → px u → BX E u t → H.size ≤ H1.size → (∀ q : Nat, q < H.size → ¬ AX q → H1[q]? = H[q]?) → va_S A0 H0 H1 locs1 → H1[q9]? = some ce → ce.vm = .none → s.vm.findClass E = some ce.cls → vx_W p l e R s m args below meth c H1 locs1 (cells + mc) (slots + ms) Q (F0 m pc ls rest) q9)
    (kk : ∀ (r : UInt32) (u : S) (t : State) (H1 : Heap) (locs1 : List Loc), t.heap = H1 → s.vm.Alike t.vm → post r u → B u t → H.size ≤ H1.size → (∀ q : Nat, q < H.size → ¬ A1 q → H1[q]? = H[q]?) → va_S A0 H0 H1 locs1 → W p l e R s m args below meth c H1 locs1 (cells + mc) (slots + ms) Q (F0 m (pc + 5) ls (.float r :: rest))) : W p l e R s m args below meth c H locs cells slots Q (F0 m pc ls st0) := by
  intro T hT X
  rcases hr T hT X with ⟨v, st₀, t, T', L, h0, X', hL, e1, e2, ⟨⟨r, u, hv, hp, hb⟩, hF⟩, st⟩ | ⟨q, st₀, t, T', L, E, ce, h0, X', hL, e1, e2, ⟨u, hp, hb, hF⟩, hce, hcv, hcl, st⟩
  · cases hv
    obtain ⟨k1, k2, k3⟩ := vx_keep h0 e1 hS hA hf hL hF
    obtain ⟨t2, a1, b1⟩ := kk r u t T'.heap (locs ++ L) e1.symm (by rw [← e2]; exact X'.warmed.alike) hp hb k1 k2 k3 T' rfl X'
    exact ⟨t2, st t2 a1, b1⟩
  · obtain ⟨k1, k2, k3⟩ := vx_keep h0 e1 hS hAX hf hL hF
    obtain ⟨t2, a1, b1⟩ := kx E ce q u t T'.heap (locs ++ L) e1.symm (by rw [← e2]; exact X'.warmed.alike) hp hb k1 k2 k3 (by rw [e1]; exact hce) hcv hcl T' rfl X'
    exact ⟨t2, st.trans a1, b1⟩
theorem vx_callFd {S SX : Type} {post : UInt64 → S → Prop} {px : SX → Prop} {B : S → State → Prop} {BX : String → SX → State → Prop} {AX : Nat → Prop} (hr : vx_Run5 p l e R s m args below meth c H locs cells slots mc ms (F0 m pc ls st0) rest (va_Qd post B A1 a) (vx_X px BX AX) free) (hS : va_S A0 H0 H locs) (hA : ∀ q, q < H.size → A1 q → A0 q) (hf : ∀ q, free q → A0 q) (hAX : ∀ q, q < H.size → AX q → A0 q)
    (kx : ∀ (E : String) (ce : Cell) (q9 : Addr) (u : SX) (t : State) (H1 : Heap) (locs1 : List Loc), t.heap = H1 → s.vm.Alike t.vm → px u → BX E u t → H.size ≤ H1.size → (∀ q : Nat, q < H.size → ¬ AX q → H1[q]? = H[q]?) → va_S A0 H0 H1 locs1 → H1[q9]? = some ce → ce.vm = .none → s.vm.findClass E = some ce.cls → vx_W p l e R s m args below meth c H1 locs1 (cells + mc) (slots + ms) Q (F0 m pc ls rest) q9)
    (kk : ∀ (r : UInt64) (u : S) (t : State) (H1 : Heap) (locs1 : List Loc), t.heap = H1 → s.vm.Alike t.vm → post r u → B u t → H.size ≤ H1.size → (∀ q : Nat, q < H.size → ¬ A1 q → H1[q]? = H[q]?) → va_S A0 H0 H1 locs1 → W p l e R s m args below meth c H1 locs1 (cells + mc) (slots + ms) Q (F0 m (pc + 5) ls (.double r :: rest))) : W p l e R s m args below meth c H locs cells slots Q (F0 m pc ls st0) := by
  intro T hT X
  rcases hr T hT X with ⟨v, st₀, t, T', L, h0, X', hL, e1, e2, ⟨⟨r, u, hv, hp, hb⟩, hF⟩, st⟩ | ⟨q, st₀, t, T', L, E, ce, h0, X', hL, e1, e2, ⟨u, hp, hb, hF⟩, hce, hcv, hcl, st⟩
  · cases hv
    obtain ⟨k1, k2, k3⟩ := vx_keep h0 e1 hS hA hf hL hF
    obtain ⟨t2, a1, b1⟩ := kk r u t T'.heap (locs ++ L) e1.symm (by rw [← e2]; exact X'.warmed.alike) hp hb k1 k2 k3 T' rfl X'
    exact ⟨t2, st t2 a1, b1⟩
  · obtain ⟨k1, k2, k3⟩ := vx_keep h0 e1 hS hAX hf hL hF
    obtain ⟨t2, a1, b1⟩ := kx E ce q u t T'.heap (locs ++ L) e1.symm (by rw [← e2]; exact X'.warmed.alike) hp hb k1 k2 k3 (by rw [e1]; exact hce) hcv hcl T' rfl X'
    exact ⟨t2, st.trans a1, b1⟩
end
/-! ===== END ===== -/
/-! ===== BEGIN by an interface, a method with a table of its own that may throw (follows va_callIFW, va_runFW) ===== -/
section
variable {p : Program} {l : Launch} {e : Env} {R : Room} {s : State} {m : MethodId} {args : Array Value} {below : List Frame} {meth : Method} {c : Code} {H : Heap} {locs : List Loc} {cells slots : Nat}
theorem vx_callIFW {T : State} (X : Stand p l e R s m args below meth c T locs cells slots) (hexec : p.tables.exec = Jvm.exec) {own C : String} {index count : Nat} {x y : MethodName} {bytes : ByteArray} {maxL : Nat} {ret : Option FieldType} {hh : List (Nat × Nat × Nat × Nat)}
    (hown : s.vm.findClass own = some m.cls) (hlink : (Cond.methodLink own index x).before args s = true) (hdecl : (Cond.declares x).before args s = true) (hface : (Cond.interfaceMethod x.cls x.cls x.name x.desc).before args s = true)
    (hsel : (Cond.selects C x y).before args s = true) (hinst : (Cond.instanceMethod y).before args s = true) (hpub : (Cond.publicMethod y).before args s = true) (hunh : (Cond.unhidden C x.name x.desc).before args s = true)
    (hcast : (Cond.castable C x.cls).before args s = true) (hcode : (Cond.codeWith y bytes maxL ret hh).before args s = true) (hx : x.cls ≠ "java/lang/invoke/MethodHandle" ∧ x.cls ≠ "java/lang/invoke/VarHandle")
    {W : Nat} {Pre : Pt → Array Value → Prop} {Post : Pt → Array Value → Option Value → Pt → Prop} {PostX : Pt → Array Value → Addr → Pt → Prop} (hK : vx_Back l R p e below s args y 5 W Pre Post PostX)
    {b : Addr} {cellB : Cell} {kB : Class} (hcell : T.heap[b]? = some cellB) (hobj : cellB.vm.isStatics = false) (hcls : s.vm.findClass C = some cellB.cls) (hkB : s.vm.classes[cellB.cls]? = some kB)
    {g : JFrame} (hg : g.method = m) (hsize : g.locals.size = c.maxLocals) {argsL rest : List Value} (hlen : ∀ sig, parseMethodDescriptor x.desc = some sig → argsL.length = sig.parameters.length)
    (hstack : g.stack = argsL.reverse ++ .ref b :: rest) (hW : 2 * g.monitorRoom + (rest.map fun v => v.category).sum ≤ W) (hdg : decode c.code g.pc = .ok (.invokeinterface index count, 5))
    (hpre : ∀ vm₁, s.WarmedH vm₁ → Pre ⟨T.setVm vm₁, locs, cells, slots⟩ (Value.ref b :: argsL).toArray) :
    (∃ (v : Option Value) (vm₁ : Vm) (B : Pt), s.WarmedH vm₁ ∧ Stand p l e R s m args below meth c B.U B.locs B.cells B.slots ∧ Post ⟨T.setVm vm₁, locs, cells, slots⟩ (Value.ref b :: argsL).toArray v B ∧
      ∀ target, Steps p.tables e below (B.U.setTop { g with pc := g.pc + 5, stack := v.toList ++ rest }) target → Steps p.tables e below (T.setTop g) target) ∨
    (∃ (q : Addr) (vm₁ : Vm) (B : Pt), s.WarmedH vm₁ ∧ Stand p l e R s m args below meth c B.U B.locs B.cells B.slots ∧ PostX ⟨T.setVm vm₁, locs, cells, slots⟩ (Value.ref b :: argsL).toArray q B ∧
      Steps p.tables e below (T.setTop g) ((B.U.setTop { g with stack := rest }).pushFrame (.throwing q))) := by
  obtain ⟨r0, r, hn, hrm, hstR, hsigR⟩ := Cond.declares_spec hdecl
  obtain ⟨cL, kL, r1, hcL, hkL, hiL, hfoundL, hn1⟩ := Cond.interfaceMethod_spec hface
  cases hn.symm.trans hn1
  have hr0cls : r0.cls = cL := Option.some.inj ((findClass_of_methodNamed hn).symm.trans hcL)
  obtain ⟨hnameR, hdescR⟩ := name_of_methodNamed hn hrm
  obtain ⟨mk, methM, hnamed, hmethM, -, habM⟩ := Cond.instanceMethod_spec hinst
  obtain ⟨c2, r2, m2, q1, q2, q3, q4, -⟩ := Cond.selects_spec hsel
  cases hcls.symm.trans q1
  cases hfoundL.symm.trans q2
  cases hnamed.symm.trans q3
  have hselP : selectMethod e.platform s.vm cellB.cls r0 = .method mk := by rw [Launch.admits_selectMethod X.admits]; exact q4
  have hpubM : hasFlag methM.accessFlags Acc.public_ = true := Cond.publicMethod_spec hnamed hmethM hpub
  have hway : ((cellB.cls :: s.vm.superclasses cellB.cls).any fun k => (declaredIn s.vm r.name r.desc k).any fun (_, z) => z.isPrivate || z.isStatic) = false := by
    rw [hnameR, hdescR]; exact Cond.unhidden_spec hcls hunh
  obtain ⟨c3, t3, w1, w2, w3⟩ := Cond.castable_spec hcast
  cases hcls.symm.trans w1
  cases hcL.symm.trans w2
  obtain ⟨vm₁, X₁, hstep₁⟩ := X.invokeinterface hexec hown hlink hn hrm hstR (by rw [hr0cls]; exact hkL) hiL hx (a := b) (cell := cellB) (kcell := kB) hcell
    (fun z h => by rw [h] at hobj; cases hobj) hkB (by rw [hr0cls]; exact w3) hselP hmethM hway hpubM habM (g := g) hg (argsL := argsL) (rest := rest) (hlen _ hsigR) hstack hdg
  rcases hK m meth c ⟨T.setVm vm₁, locs, cells, slots⟩ { g with stack := rest } (.invokeinterface index count) mk (Value.ref b :: argsL).toArray X₁ hg hsize hdg hW (X₁.named hnamed) (hpre vm₁ X₁.warmed) with ⟨v, B, X', hpost, hsteps⟩ | ⟨q, B, X', hpost, hsteps⟩
  · exact Or.inl ⟨v, vm₁, B, X₁.warmed, X', hpost, fun target h => hstep₁ _ fun acts => by rw [doInvoke_state]; exact hsteps.trans h⟩
  · exact Or.inr ⟨q, vm₁, B, X₁.warmed, X', hpost, hstep₁ _ fun acts => by rw [doInvoke_state]; exact hsteps⟩
theorem vx_runFW {x y : MethodName} {bytes cc : ByteArray} {maxL nL mc ms n index count : Nat} {ret : Option FieldType} {hh : List (Nat × Nat × Nat × Nat)} {ws : List Cond} {rm : Room} {Pc : Array Value → State → Prop} {Qc : Array Value → State → Outcome → State → Prop} {XC : String → State → State → Prop} {free : Addr → Prop} {Ts : List Cond} {own C : String} {cC : ClassId} {b : Addr} {As rest : List Value} {g : JFrame}
    (hat : ClassAt s C cC) (S : CallFix p m c cc nL s args Ts own) (hM : vx_Met l y ws rm Pc Qc XC mc ms free) (cw : va_CIW R s args own C index x y bytes maxL ret hh ws rm mc ms n) (hp : PreV s H C b Pc As)
    (hg : g.method = m) (hn : As.length = n) (hsize : g.locals.size = nL) (hstack : g.stack = As.reverse ++ .ref b :: rest) (hW : 2 * g.monitorRoom + (rest.map fun v => v.category).sum ≤ 8) (hdg : decode cc g.pc = .ok (.invokeinterface index count, 5)) (hf : cells + mc ≤ R.cells ∧ slots + ms ≤ R.slots) :
    vx_Run5 p l e R s m args below meth c H locs cells slots mc ms g rest (Qc (Value.ref b :: As).toArray) XC free := by
  obtain ⟨hrc, hrs, hfr, hlo, hws, hcw⟩ := cw.back
  have hini := cw.init
  have hK : vx_Back l R p e below s args y 5 8 (PreOf R mc ms Pc) (PostOf Qc mc ms free) (vx_Post XC mc ms free) := vx_backW (hh := hh) (bytes := bytes) (maxL := maxL) (ret := ret) hM hp.1 hrc hrs hfr hlo hws hcw (fun a' U hW => word_at hW (Or.inl (by first | rfl | simp [Cond.onTables, Cond.keeps, Cond.steady])) hini)
  obtain ⟨hx, hb, hml, ho, -⟩ := S
  obtain ⟨-, ⟨cellB, hcB, hoB, hclB⟩, hPc⟩ := hp
  obtain ⟨hfc, kB, hkB, -⟩ := hat
  cases hfc.symm.trans hclB
  intro T hT X
  rcases vx_callIFW X hx (C := C) (hh := hh) (bytes := bytes) (maxL := maxL) (ret := ret) ho cw.link cw.decl cw.face cw.sel cw.inst cw.pub cw.unh cw.cast cw.code cw.notMH hK (by rw [hT]; exact hcB) hoB hclB hkB hg (hsize.trans hml.symm) (argsL := As) (rest := rest) (fun sig h => hn.trans (cw.len sig h)) hstack hW (by rw [hb]; exact hdg)
    (fun vm₁ hW₁ => ⟨hf.1, hf.2, hPc (T.setVm vm₁) hT hW₁⟩) with ⟨v, vm₁, ⟨U', l2, c2, s2⟩, hW₁, X', ⟨g', mk, t, L, e1, e2, hq, h1, hL, h2, h3⟩, st⟩ | ⟨q, vm₁, ⟨U', l2, c2, s2⟩, hW₁, X', ⟨g', mk, t, L, E, ce, e1, e2, hq, hce, hcv, hcl, h1, hL, h2, h3⟩, st⟩
  · dsimp only [Pt.U, Pt.locs, Pt.cells, Pt.slots] at X' e1 e2 h1 h2 h3 st
    subst h1; subst h2; subst h3
    exact Or.inl ⟨v, (T.setVm vm₁).calling g' mk (Value.ref b :: As).toArray, t, U', L, hT, X', hL, e1, e2, hq, st⟩
  · dsimp only [Pt.U, Pt.locs, Pt.cells, Pt.slots] at X' e1 e2 h1 h2 h3 st hcl
    subst h1; subst h2; subst h3
    exact Or.inr ⟨q, (T.setVm vm₁).calling g' mk (Value.ref b :: As).toArray, t, U', L, E, ce, hT, X', hL, e1, e2, hq, hce, hcv, vx_cls hW₁ hcl, st⟩
end
/-! ===== END ===== -/
/-! ===== BEGIN .. of methods that hand back an object of the pool ===== -/
section
variable {p : Program} {l : Launch} {e : Env} {R : Room} {s : State} {m : MethodId} {args : Array Value} {below : List Frame} {meth : Method} {c : Code} {H : Heap} {locs : List Loc} {cells slots : Nat} {Q : State → Prop}
variable {mc ms : Nat} {free : Addr → Prop} {A0 A1 : Nat → Prop} {H0 : Heap} {a : Array Value} {pc : Nat} {ls : Array Slot} {st0 rest : List Value}
theorem vx_callq {S SX : Type} {post : Option Nat → S → Prop} {px : SX → Prop} {B : S → State → Prop} {BX : String → SX → State → Prop} {AX : Nat → Prop} (hr : vx_Run p l e R s m args below meth c H locs cells slots mc ms (F0 m pc ls st0) rest (va_Qq post B A1 a) (vx_X px BX AX) free) (hS : va_S A0 H0 H locs) (hA : ∀ q, q < H.size → A1 q → A0 q) (hf : ∀ q, free q → A0 q) (hAX : ∀ q, q < H.size → AX q → A0 q)
    (kx : ∀ (E : String) (ce : Cell) (q9 : Addr) (u : SX) (t : State) (H1 : Heap) (locs1 : List Loc), t.heap = H1 → s.vm.Alike t.vm → px u → BX E u t → H.size ≤ H1.size → (∀ q : Nat, q < H.size → ¬ AX q → H1[q]? = H[q]?) → va_S A0 H0 H1 locs1 → H1[q9]? = some ce → ce.vm = .none → s.vm.findClass E = some ce.cls → vx_W p l e R s m args below meth c H1 locs1 (cells + mc) (slots + ms) Q (F0 m pc ls rest) q9)
    (kk : ∀ (r : Option Nat) (u : S) (t : State) (H1 : Heap) (locs1 : List Loc), t.heap = H1 → s.vm.Alike t.vm → post r u → B u t → H.size ≤ H1.size → (∀ q : Nat, q < H.size → ¬ A1 q → H1[q]? = H[q]?) → va_S A0 H0 H1 locs1 → W p l e R s m args below meth c H1 locs1 (cells + mc) (slots + ms) Q (F0 m (pc + 3) ls (va_rf r :: rest))) : W p l e R s m args below meth c H locs cells slots Q (F0 m pc ls st0) := by
  intro T hT X
  rcases hr T hT X with ⟨v, st₀, t, T', L, h0, X', hL, e1, e2, ⟨⟨r, u, hv, hp, hb⟩, hF⟩, st⟩ | ⟨q, st₀, t, T', L, E, ce, h0, X', hL, e1, e2, ⟨u, hp, hb, hF⟩, hce, hcv, hcl, st⟩
  · cases hv
    obtain ⟨k1, k2, k3⟩ := vx_keep h0 e1 hS hA hf hL hF
    obtain ⟨t2, a1, b1⟩ := kk r u t T'.heap (locs ++ L) e1.symm (by rw [← e2]; exact X'.warmed.alike) hp hb k1 k2 k3 T' rfl X'
    exact ⟨t2, st t2 a1, b1⟩
  · obtain ⟨k1, k2, k3⟩ := vx_keep h0 e1 hS hAX hf hL hF
    obtain ⟨t2, a1, b1⟩ := kx E ce q u t T'.heap (locs ++ L) e1.symm (by rw [← e2]; exact X'.warmed.alike) hp hb k1 k2 k3 (by rw [e1]; exact hce) hcv hcl T' rfl X'
    exact ⟨t2, st.trans a1, b1⟩
end
/-! ===== END ===== -/
/-! ===== BEGIN .. a constant ===== -/
section
variable {p : Program} {l : Launch} {e : Env} {R : Room} {s : State} {m : MethodId} {args : Array Value} {below : List Frame} {meth : Method} {c : Code} {H : Heap} {locs : List Loc} {cells slots : Nat} {Q : State → Prop}
variable {mc ms : Nat} {free : Addr → Prop} {A0 A1 : Nat → Prop} {H0 : Heap} {a : Array Value} {pc : Nat} {ls : Array Slot} {st0 rest : List Value}
theorem vx_calle {ad : Nat → Nat} {S SX : Type} {post : Option Nat → S → Prop} {px : SX → Prop} {B : S → State → Prop} {BX : String → SX → State → Prop} {AX : Nat → Prop} (hr : vx_Run p l e R s m args below meth c H locs cells slots mc ms (F0 m pc ls st0) rest (va_Qe ad post B A1 a) (vx_X px BX AX) free) (hS : va_S A0 H0 H locs) (hA : ∀ q, q < H.size → A1 q → A0 q) (hf : ∀ q, free q → A0 q) (hAX : ∀ q, q < H.size → AX q → A0 q)
    (kx : ∀ (E : String) (ce : Cell) (q9 : Addr) (u : SX) (t : State) (H1 : Heap) (locs1 : List Loc), t.heap = H1 → s.vm.Alike t.vm → px u → BX E u t → H.size ≤ H1.size → (∀ q : Nat, q < H.size → ¬ AX q → H1[q]? = H[q]?) → va_S A0 H0 H1 locs1 → H1[q9]? = some ce → ce.vm = .none → s.vm.findClass E = some ce.cls → vx_W p l e R s m args below meth c H1 locs1 (cells + mc) (slots + ms) Q (F0 m pc ls rest) q9)
    (kk : ∀ (r : Option Nat) (u : S) (t : State) (H1 : Heap) (locs1 : List Loc), t.heap = H1 → s.vm.Alike t.vm → post r u → B u t → H.size ≤ H1.size → (∀ q : Nat, q < H.size → ¬ A1 q → H1[q]? = H[q]?) → va_S A0 H0 H1 locs1 → W p l e R s m args below meth c H1 locs1 (cells + mc) (slots + ms) Q (F0 m (pc + 3) ls (va_re ad r :: rest))) : W p l e R s m args below meth c H locs cells slots Q (F0 m pc ls st0) := by
  intro T hT X
  rcases hr T hT X with ⟨v, st₀, t, T', L, h0, X', hL, e1, e2, ⟨⟨r, u, hv, hp, hb⟩, hF⟩, st⟩ | ⟨q, st₀, t, T', L, E, ce, h0, X', hL, e1, e2, ⟨u, hp, hb, hF⟩, hce, hcv, hcl, st⟩
  · cases hv
    obtain ⟨k1, k2, k3⟩ := vx_keep h0 e1 hS hA hf hL hF
    obtain ⟨t2, a1, b1⟩ := kk r u t T'.heap (locs ++ L) e1.symm (by rw [← e2]; exact X'.warmed.alike) hp hb k1 k2 k3 T' rfl X'
    exact ⟨t2, st t2 a1, b1⟩
  · obtain ⟨k1, k2, k3⟩ := vx_keep h0 e1 hS hAX hf hL hF
    obtain ⟨t2, a1, b1⟩ := kx E ce q u t T'.heap (locs ++ L) e1.symm (by rw [← e2]; exact X'.warmed.alike) hp hb k1 k2 k3 (by rw [e1]; exact hce) hcv hcl T' rfl X'
    exact ⟨t2, st.trans a1, b1⟩
end
/-! ===== END ===== -/
/-! ===== BEGIN .. by an interface, an object ===== -/
section
variable {p : Program} {l : Launch} {e : Env} {R : Room} {s : State} {m : MethodId} {args : Array Value} {below : List Frame} {meth : Method} {c : Code} {H : Heap} {locs : List Loc} {cells slots : Nat} {Q : State → Prop}
variable {mc ms : Nat} {free : Addr → Prop} {A0 A1 : Nat → Prop} {H0 : Heap} {a : Array Value} {pc : Nat} {ls : Array Slot} {st0 rest : List Value}
theorem vx_callFq {S SX : Type} {post : Option Nat → S → Prop} {px : SX → Prop} {B : S → State → Prop} {BX : String → SX → State → Prop} {AX : Nat → Prop} (hr : vx_Run5 p l e R s m args below meth c H locs cells slots mc ms (F0 m pc ls st0) rest (va_Qq post B A1 a) (vx_X px BX AX) free) (hS : va_S A0 H0 H locs) (hA : ∀ q, q < H.size → A1 q → A0 q) (hf : ∀ q, free q → A0 q) (hAX : ∀ q, q < H.size → AX q → A0 q)
    (kx : ∀ (E : String) (ce : Cell) (q9 : Addr) (u : SX) (t : State) (H1 : Heap) (locs1 : List Loc), t.heap = H1 → s.vm.Alike t.vm → px u → BX E u t → H.size ≤ H1.size → (∀ q : Nat, q < H.size → ¬ AX q → H1[q]? = H[q]?) → va_S A0 H0 H1 locs1 → H1[q9]? = some ce → ce.vm = .none → s.vm.findClass E = some ce.cls → vx_W p l e R s m args below meth c H1 locs1 (cells + mc) (slots + ms) Q (F0 m pc ls rest) q9)
    (kk : ∀ (r : Option Nat) (u : S) (t : State) (H1 : Heap) (locs1 : List Loc), t.heap = H1 → s.vm.Alike t.vm → post r u → B u t → H.size ≤ H1.size → (∀ q : Nat, q < H.size → ¬ A1 q → H1[q]? = H[q]?) → va_S A0 H0 H1 locs1 → W p l e R s m args below meth c H1 locs1 (cells + mc) (slots + ms) Q (F0 m (pc + 5) ls (va_rf r :: rest))) : W p l e R s m args below meth c H locs cells slots Q (F0 m pc ls st0) := by
  intro T hT X
  rcases hr T hT X with ⟨v, st₀, t, T', L, h0, X', hL, e1, e2, ⟨⟨r, u, hv, hp, hb⟩, hF⟩, st⟩ | ⟨q, st₀, t, T', L, E, ce, h0, X', hL, e1, e2, ⟨u, hp, hb, hF⟩, hce, hcv, hcl, st⟩
  · cases hv
    obtain ⟨k1, k2, k3⟩ := vx_keep h0 e1 hS hA hf hL hF
    obtain ⟨t2, a1, b1⟩ := kk r u t T'.heap (locs ++ L) e1.symm (by rw [← e2]; exact X'.warmed.alike) hp hb k1 k2 k3 T' rfl X'
    exact ⟨t2, st t2 a1, b1⟩
  · obtain ⟨k1, k2, k3⟩ := vx_keep h0 e1 hS hAX hf hL hF
    obtain ⟨t2, a1, b1⟩ := kx E ce q u t T'.heap (locs ++ L) e1.symm (by rw [← e2]; exact X'.warmed.alike) hp hb k1 k2 k3 (by rw [e1]; exact hce) hcv hcl T' rfl X'
    exact ⟨t2, st.trans a1, b1⟩
end
/-! ===== END ===== -/
/-! ===== BEGIN .. by an interface, a constant ===== -/
section
variable {p : Program} {l : Launch} {e : Env} {R : Room} {s : State} {m : MethodId} {args : Array Value} {below : List Frame} {meth : Method} {c : Code} {H : Heap} {locs : List Loc} {cells slots : Nat} {Q : State → Prop}
variable {mc ms : Nat} {free : Addr → Prop} {A0 A1 : Nat → Prop} {H0 : Heap} {a : Array Value} {pc : Nat} {ls : Array Slot} {st0 rest : List Value}
theorem vx_callFe {ad : Nat → Nat} {S SX : Type} {post : Option Nat → S → Prop} {px : SX → Prop} {B : S → State → Prop} {BX : String → SX → State → Prop} {AX : Nat → Prop} (hr : vx_Run5 p l e R s m args below meth c H locs cells slots mc ms (F0 m pc ls st0) rest (va_Qe ad post B A1 a) (vx_X px BX AX) free) (hS : va_S A0 H0 H locs) (hA : ∀ q, q < H.size → A1 q → A0 q) (hf : ∀ q, free q → A0 q) (hAX : ∀ q, q < H.size → AX q → A0 q)
    (kx : ∀ (E : String) (ce : Cell) (q9 : Addr) (u : SX) (t : State) (H1 : Heap) (locs1 : List Loc), t.heap = H1 → s.vm.Alike t.vm → px u → BX E u t → H.size ≤ H1.size → (∀ q : Nat, q < H.size → ¬ AX q → H1[q]? = H[q]?) → va_S A0 H0 H1 locs1 → H1[q9]? = some ce → ce.vm = .none → s.vm.findClass E = some ce.cls → vx_W p l e R s m args below meth c H1 locs1 (cells + mc) (slots + ms) Q (F0 m pc ls rest) q9)
    (kk : ∀ (r : Option Nat) (u : S) (t : State) (H1 : Heap) (locs1 : List Loc), t.heap = H1 → s.vm.Alike t.vm → post r u → B u t → H.size ≤ H1.size → (∀ q : Nat, q < H.size → ¬ A1 q → H1[q]? = H[q]?) → va_S A0 H0 H1 locs1 → W p l e R s m args below meth c H1 locs1 (cells + mc) (slots + ms) Q (F0 m (pc + 5) ls (va_re ad r :: rest))) : W p l e R s m args below meth c H locs cells slots Q (F0 m pc ls st0) := by
  intro T hT X
  rcases hr T hT X with ⟨v, st₀, t, T', L, h0, X', hL, e1, e2, ⟨⟨r, u, hv, hp, hb⟩, hF⟩, st⟩ | ⟨q, st₀, t, T', L, E, ce, h0, X', hL, e1, e2, ⟨u, hp, hb, hF⟩, hce, hcv, hcl, st⟩
  · cases hv
    obtain ⟨k1, k2, k3⟩ := vx_keep h0 e1 hS hA hf hL hF
    obtain ⟨t2, a1, b1⟩ := kk r u t T'.heap (locs ++ L) e1.symm (by rw [← e2]; exact X'.warmed.alike) hp hb k1 k2 k3 T' rfl X'
    exact ⟨t2, st t2 a1, b1⟩
  · obtain ⟨k1, k2, k3⟩ := vx_keep h0 e1 hS hAX hf hL hF
    obtain ⟨t2, a1, b1⟩ := kx E ce q u t T'.heap (locs ++ L) e1.symm (by rw [← e2]; exact X'.warmed.alike) hp hb k1 k2 k3 (by rw [e1]; exact hce) hcv hcl T' rfl X'
    exact ⟨t2, st.trans a1, b1⟩
end
/-! ===== END ===== -/
/-! ===== BEGIN what the machine throws by itself: null at a field, at athrow ===== -/
section VXM2
variable {p : Program} {l : Launch} {e : Env} {R : Room} {s : State} {m : MethodId} {args : Array Value} {below : List Frame} {meth : Method} {c : Code} {H : Heap} {locs : List Loc} {cells slots : Nat}
variable {Q : State → Prop} {cc : ByteArray} {pc : Nat} {ls : Array Slot} {rest : List Value}
theorem vx_getfN {D cl tys} {own ref C : String} {T : u_T} {N ci index : Nat} {Ts : List Cond} (hexec : p.tables.exec = Jvm.exec) (hb : c.code = cc) (hts : ∀ w ∈ Ts, w.before args s = true) (hin : ∀ w ∈ u_ws C T N, w ∈ Ts) (hown : s.vm.findClass own = some m.cls) (hK : va_K D cl tys s) (hc : cl[ci]? = some (C, T, N)) (k : Nat) (hk : k < N) (hlink : (Cond.fieldLink own index ref (T k).2.1 (T k).2.2.1).before args s = true) (hsame : ∀ x, s.fieldFound? (T k).1 (T k).2.1 (T k).2.2.1 = some x → s.fieldFound? ref (T k).2.1 (T k).2.2.1 = some x) (hdg : decode cc pc = .ok (.getfield index, 3)) (kk : vx_NoteN p l e R s m args below meth c H locs cells slots Q (F0 m pc ls rest)) : W p l e R s m args below meth c H locs cells slots Q (F0 m pc ls (.null :: rest)) := by
  obtain ⟨hS, hfc, kC, hkC, -⟩ := hK.1 ci _ hc
  obtain ⟨cf, kf, fi, f, hi, -⟩ := hS k hk
  intro U hU X
  obtain ⟨vm', X1, st1⟩ := X.getfieldNull hexec hown hlink (hsame _ hi) (u_facts hfc hkC (u_lays hts hin hk) hi).1 (g := F0 m pc ls (.null :: rest)) rfl (rest := rest) rfl (by rw [hb]; exact hdg)
  obtain ⟨t, st, q⟩ := kk (U.setVm vm') hU X1
  exact ⟨t, st1 t st, q⟩
theorem vx_getfNN {D cl tys} {own ref C host : String} {T : u_T} {N ci index : Nat} {Ts : List Cond} (hexec : p.tables.exec = Jvm.exec) (hb : c.code = cc) (hts : ∀ w ∈ Ts, w.before args s = true) (hin : ∀ w ∈ u_ws C T N, w ∈ Ts) (hown : s.vm.findClass own = some m.cls) (hK : va_K D cl tys s) (hc : cl[ci]? = some (C, T, N)) (k : Nat) (hk : k < N) (hlink : (Cond.fieldLinkNest own index ref (T k).2.1 (T k).2.2.1 host).before args s = true) (hsame : ∀ x, s.fieldFound? (T k).1 (T k).2.1 (T k).2.2.1 = some x → s.fieldFound? ref (T k).2.1 (T k).2.2.1 = some x) (hdg : decode cc pc = .ok (.getfield index, 3)) (kk : vx_NoteN p l e R s m args below meth c H locs cells slots Q (F0 m pc ls rest)) : W p l e R s m args below meth c H locs cells slots Q (F0 m pc ls (.null :: rest)) := by
  obtain ⟨hS, hfc, kC, hkC, -⟩ := hK.1 ci _ hc
  obtain ⟨cf, kf, fi, f, hi, -⟩ := hS k hk
  intro U hU X
  obtain ⟨vm', X1, st1⟩ := X.getfieldNullNest hexec hown hlink (hsame _ hi) (u_facts hfc hkC (u_lays hts hin hk) hi).1 (g := F0 m pc ls (.null :: rest)) rfl (rest := rest) rfl (by rw [hb]; exact hdg)
  obtain ⟨t, st, q⟩ := kk (U.setVm vm') hU X1
  exact ⟨t, st1 t st, q⟩
theorem vx_putfN {D cl tys} {own ref C : String} {T : u_T} {N ci index : Nat} {Ts : List Cond} (hexec : p.tables.exec = Jvm.exec) (hb : c.code = cc) (hts : ∀ w ∈ Ts, w.before args s = true) (hin : ∀ w ∈ u_ws C T N, w ∈ Ts) (hown : s.vm.findClass own = some m.cls) (hK : va_K D cl tys s) (hc : cl[ci]? = some (C, T, N)) (k : Nat) (hk : k < N) (hlink : (Cond.fieldLink own index ref (T k).2.1 (T k).2.2.1).before args s = true) (hsame : ∀ x, s.fieldFound? (T k).1 (T k).2.1 (T k).2.2.1 = some x → s.fieldFound? ref (T k).2.1 (T k).2.2.1 = some x) (hfin : (T k).2.2.2 = false) {v : Value} (hdg : decode cc pc = .ok (.putfield index, 3)) (kk : vx_NoteN p l e R s m args below meth c H locs cells slots Q (F0 m pc ls rest)) : W p l e R s m args below meth c H locs cells slots Q (F0 m pc ls (v :: .null :: rest)) := by
  obtain ⟨hS, hfc, kC, hkC, -⟩ := hK.1 ci _ hc
  obtain ⟨cf, kf, fi, f, hi, -⟩ := hS k hk
  have hlay := hts _ (hin _ (u_in_lay hk))
  unfold u_lay at hlay
  rw [if_neg (by rw [hfin]; decide)] at hlay
  obtain ⟨c9, k9, cf9, kf9, fi9, f9, -, -, hi9, hst9, hnf9, -⟩ := Cond.lays_spec hlay
  cases hi.symm.trans hi9
  intro U hU X
  obtain ⟨vm', X1, st1⟩ := X.putfieldNull hexec hown hlink (hsame _ hi) hst9 hnf9 (g := F0 m pc ls (v :: .null :: rest)) rfl (v := v) (rest := rest) rfl (by rw [hb]; exact hdg)
  obtain ⟨t, st, q⟩ := kk (U.setVm vm') hU X1
  exact ⟨t, st1 t st, q⟩
theorem vx_putfNN {D cl tys} {own ref C host : String} {T : u_T} {N ci index : Nat} {Ts : List Cond} (hexec : p.tables.exec = Jvm.exec) (hb : c.code = cc) (hts : ∀ w ∈ Ts, w.before args s = true) (hin : ∀ w ∈ u_ws C T N, w ∈ Ts) (hown : s.vm.findClass own = some m.cls) (hK : va_K D cl tys s) (hc : cl[ci]? = some (C, T, N)) (k : Nat) (hk : k < N) (hlink : (Cond.fieldLinkNest own index ref (T k).2.1 (T k).2.2.1 host).before args s = true) (hsame : ∀ x, s.fieldFound? (T k).1 (T k).2.1 (T k).2.2.1 = some x → s.fieldFound? ref (T k).2.1 (T k).2.2.1 = some x) (hfin : (T k).2.2.2 = false) {v : Value} (hdg : decode cc pc = .ok (.putfield index, 3)) (kk : vx_NoteN p l e R s m args below meth c H locs cells slots Q (F0 m pc ls rest)) : W p l e R s m args below meth c H locs cells slots Q (F0 m pc ls (v :: .null :: rest)) := by
  obtain ⟨hS, hfc, kC, hkC, -⟩ := hK.1 ci _ hc
  obtain ⟨cf, kf, fi, f, hi, -⟩ := hS k hk
  have hlay := hts _ (hin _ (u_in_lay hk))
  unfold u_lay at hlay
  rw [if_neg (by rw [hfin]; decide)] at hlay
  obtain ⟨c9, k9, cf9, kf9, fi9, f9, -, -, hi9, hst9, hnf9, -⟩ := Cond.lays_spec hlay
  cases hi.symm.trans hi9
  intro U hU X
  obtain ⟨vm', X1, st1⟩ := X.putfieldNullNest hexec hown hlink (hsame _ hi) hst9 hnf9 (g := F0 m pc ls (v :: .null :: rest)) rfl (v := v) (rest := rest) rfl (by rw [hb]; exact hdg)
  obtain ⟨t, st, q⟩ := kk (U.setVm vm') hU X1
  exact ⟨t, st1 t st, q⟩
theorem vx_athrowN (hexec : p.tables.exec = Jvm.exec) (hb : c.code = cc) (hdg : decode cc pc = .ok (.athrow, 1)) (k : vx_NoteN p l e R s m args below meth c H locs cells slots Q (F0 m pc ls rest)) : W p l e R s m args below meth c H locs cells slots Q (F0 m pc ls (.null :: rest)) := by
  intro T hT X
  obtain ⟨t, st, q⟩ := k T hT X
  exact ⟨t, X.athrowNull hexec (g := F0 m pc ls (.null :: rest)) rfl (rest := rest) rfl (by rw [hb]; exact hdg) t st, q⟩
end VXM2
/-! ===== END ===== -/
end
section
-- ===== PART A: goes FIRST, ahead of the names: the tables' words, and 'selects' of the private methods out of them =====
/-- a private method of a class that the tables say can be made, by its rows of tables_1 -/
def lw_okq (q : MethodName × Nat) : Prop := (q.1.cls ≠ "java/lang/invoke/MethodHandle" ∧ q.1.cls ≠ "java/lang/invoke/VarHandle") ∧ Cond.instantiable q.1.cls q.2 ∈ tables_1 ∧ Cond.privateMethod q.1 ∈ tables_1 ∧ Cond.instanceMethod q.1 ∈ tables_1
theorem lw_p0 : lw_okq (⟨"LineTemplates", "readText", "(LLineTemplates$Line;)I"⟩, 10) := ⟨⟨by decide +kernel, by decide +kernel⟩, List.mem_of_getElem? (i := 19) (by decide +kernel), List.mem_of_getElem? (i := 164) (by decide +kernel), List.mem_of_getElem? (i := 165) (by decide +kernel)⟩
theorem lw_p1 : lw_okq (⟨"LineTemplates$Line", "clear", "()V"⟩, 7) := ⟨⟨by decide +kernel, by decide +kernel⟩, List.mem_of_getElem? (i := 27) (by decide +kernel), List.mem_of_getElem? (i := 168) (by decide +kernel), List.mem_of_getElem? (i := 169) (by decide +kernel)⟩
theorem lw_p2 : lw_okq (⟨"LineTemplates$Line", "addCharacter", "(I)Z"⟩, 7) := ⟨⟨by decide +kernel, by decide +kernel⟩, List.mem_of_getElem? (i := 27) (by decide +kernel), List.mem_of_getElem? (i := 172) (by decide +kernel), List.mem_of_getElem? (i := 173) (by decide +kernel)⟩
theorem lw_p3 : lw_okq (⟨"LineTemplates$Line", "growsLastPiece", "(I)Z"⟩, 7) := ⟨⟨by decide +kernel, by decide +kernel⟩, List.mem_of_getElem? (i := 27) (by decide +kernel), List.mem_of_getElem? (i := 179) (by decide +kernel), List.mem_of_getElem? (i := 180) (by decide +kernel)⟩
theorem lw_p4 : lw_okq (⟨"LineTemplates$Line", "kindAt", "(I)I"⟩, 7) := ⟨⟨by decide +kernel, by decide +kernel⟩, List.mem_of_getElem? (i := 27) (by decide +kernel), List.mem_of_getElem? (i := 183) (by decide +kernel), List.mem_of_getElem? (i := 184) (by decide +kernel)⟩
theorem lw_p5 : lw_okq (⟨"LineTemplates$History", "remember", "(LLineTemplates$State;)V"⟩, 3) := ⟨⟨by decide +kernel, by decide +kernel⟩, List.mem_of_getElem? (i := 104) (by decide +kernel), List.mem_of_getElem? (i := 191) (by decide +kernel), List.mem_of_getElem? (i := 192) (by decide +kernel)⟩
theorem lw_p6 : lw_okq (⟨"LineTemplates$History", "placeBehindOldest", "(I)I"⟩, 3) := ⟨⟨by decide +kernel, by decide +kernel⟩, List.mem_of_getElem? (i := 104) (by decide +kernel), List.mem_of_getElem? (i := 195) (by decide +kernel), List.mem_of_getElem? (i := 196) (by decide +kernel)⟩
theorem lw_p7 : lw_okq (⟨"LineTemplates$State", "copyFrom", "(LLineTemplates$State;)V"⟩, 7) := ⟨⟨by decide +kernel, by decide +kernel⟩, List.mem_of_getElem? (i := 66) (by decide +kernel), List.mem_of_getElem? (i := 202) (by decide +kernel), List.mem_of_getElem? (i := 203) (by decide +kernel)⟩
theorem lw_p8 : lw_okq (⟨"LineTemplates$State", "sampleAt", "(I)LLineTemplates$Line;"⟩, 7) := ⟨⟨by decide +kernel, by decide +kernel⟩, List.mem_of_getElem? (i := 66) (by decide +kernel), List.mem_of_getElem? (i := 212) (by decide +kernel), List.mem_of_getElem? (i := 213) (by decide +kernel)⟩
theorem lw_p9 : lw_okq (⟨"LineTemplates$State", "kindIn", "(II)I"⟩, 7) := ⟨⟨by decide +kernel, by decide +kernel⟩, List.mem_of_getElem? (i := 66) (by decide +kernel), List.mem_of_getElem? (i := 216) (by decide +kernel), List.mem_of_getElem? (i := 217) (by decide +kernel)⟩
theorem lw_p10 : lw_okq (⟨"LineTemplates$State", "isOpen", "(II)Z"⟩, 7) := ⟨⟨by decide +kernel, by decide +kernel⟩, List.mem_of_getElem? (i := 66) (by decide +kernel), List.mem_of_getElem? (i := 220) (by decide +kernel), List.mem_of_getElem? (i := 221) (by decide +kernel)⟩
theorem lw_p11 : lw_okq (⟨"LineTemplates$Line", "isWrittenLike", "(ILLineTemplates$Line;I)Z"⟩, 7) := ⟨⟨by decide +kernel, by decide +kernel⟩, List.mem_of_getElem? (i := 27) (by decide +kernel), List.mem_of_getElem? (i := 229) (by decide +kernel), List.mem_of_getElem? (i := 230) (by decide +kernel)⟩
theorem lw_p12 : lw_okq (⟨"LineTemplates$State", "openWord", "(II)V"⟩, 7) := ⟨⟨by decide +kernel, by decide +kernel⟩, List.mem_of_getElem? (i := 66) (by decide +kernel), List.mem_of_getElem? (i := 234) (by decide +kernel), List.mem_of_getElem? (i := 235) (by decide +kernel)⟩
theorem lw_p13 : lw_okq (⟨"LineTemplates$State", "moveLines", "(II)V"⟩, 7) := ⟨⟨by decide +kernel, by decide +kernel⟩, List.mem_of_getElem? (i := 66) (by decide +kernel), List.mem_of_getElem? (i := 238) (by decide +kernel), List.mem_of_getElem? (i := 239) (by decide +kernel)⟩
theorem lw_p14 : lw_okq (⟨"LineTemplates$State", "dropTemplate", "(I)V"⟩, 7) := ⟨⟨by decide +kernel, by decide +kernel⟩, List.mem_of_getElem? (i := 66) (by decide +kernel), List.mem_of_getElem? (i := 242) (by decide +kernel), List.mem_of_getElem? (i := 243) (by decide +kernel)⟩
theorem lw_p15 : lw_okq (⟨"LineTemplates$State", "firstFit", "(LLineTemplates$Line;)I"⟩, 7) := ⟨⟨by decide +kernel, by decide +kernel⟩, List.mem_of_getElem? (i := 66) (by decide +kernel), List.mem_of_getElem? (i := 258) (by decide +kernel), List.mem_of_getElem? (i := 259) (by decide +kernel)⟩
def lw_privs_1 : List (MethodName × Nat) := [(⟨"LineTemplates", "readText", "(LLineTemplates$Line;)I"⟩, 10), (⟨"LineTemplates$Line", "clear", "()V"⟩, 7), (⟨"LineTemplates$Line", "addCharacter", "(I)Z"⟩, 7), (⟨"LineTemplates$Line", "growsLastPiece", "(I)Z"⟩, 7), (⟨"LineTemplates$Line", "kindAt", "(I)I"⟩, 7), (⟨"LineTemplates$History", "remember", "(LLineTemplates$State;)V"⟩, 3), (⟨"LineTemplates$History", "placeBehindOldest", "(I)I"⟩, 3), (⟨"LineTemplates$State", "copyFrom", "(LLineTemplates$State;)V"⟩, 7), (⟨"LineTemplates$State", "sampleAt", "(I)LLineTemplates$Line;"⟩, 7), (⟨"LineTemplates$State", "kindIn", "(II)I"⟩, 7), (⟨"LineTemplates$State", "isOpen", "(II)Z"⟩, 7), (⟨"LineTemplates$Line", "isWrittenLike", "(ILLineTemplates$Line;I)Z"⟩, 7), (⟨"LineTemplates$State", "openWord", "(II)V"⟩, 7), (⟨"LineTemplates$State", "moveLines", "(II)V"⟩, 7), (⟨"LineTemplates$State", "dropTemplate", "(I)V"⟩, 7), (⟨"LineTemplates$State", "firstFit", "(LLineTemplates$Line;)I"⟩, 7)]
theorem lw_r1 : ∀ q ∈ lw_privs_1, lw_okq q := List.forall_mem_cons.mpr ⟨lw_p0, List.forall_mem_cons.mpr ⟨lw_p1, List.forall_mem_cons.mpr ⟨lw_p2, List.forall_mem_cons.mpr ⟨lw_p3, List.forall_mem_cons.mpr ⟨lw_p4, List.forall_mem_cons.mpr ⟨lw_p5, List.forall_mem_cons.mpr ⟨lw_p6, List.forall_mem_cons.mpr ⟨lw_p7, List.forall_mem_cons.mpr ⟨lw_p8, List.forall_mem_cons.mpr ⟨lw_p9, List.forall_mem_cons.mpr ⟨lw_p10, List.forall_mem_cons.mpr ⟨lw_p11, List.forall_mem_cons.mpr ⟨lw_p12, List.forall_mem_cons.mpr ⟨lw_p13, List.forall_mem_cons.mpr ⟨lw_p14, List.forall_mem_cons.mpr ⟨lw_p15, fun _ h => absurd h List.not_mem_nil⟩⟩⟩⟩⟩⟩⟩⟩⟩⟩⟩⟩⟩⟩⟩⟩
theorem lw_p16 : lw_okq (⟨"LineTemplates$State", "fits", "(LLineTemplates$Line;I)Z"⟩, 7) := ⟨⟨by decide +kernel, by decide +kernel⟩, List.mem_of_getElem? (i := 66) (by decide +kernel), List.mem_of_getElem? (i := 262) (by decide +kernel), List.mem_of_getElem? (i := 263) (by decide +kernel)⟩
theorem lw_p17 : lw_okq (⟨"LineTemplates$State", "lastOf", "(II)I"⟩, 7) := ⟨⟨by decide +kernel, by decide +kernel⟩, List.mem_of_getElem? (i := 66) (by decide +kernel), List.mem_of_getElem? (i := 274) (by decide +kernel), List.mem_of_getElem? (i := 275) (by decide +kernel)⟩
theorem lw_p18 : lw_okq (⟨"LineTemplates$Line", "sizeAt", "(I)I"⟩, 7) := ⟨⟨by decide +kernel, by decide +kernel⟩, List.mem_of_getElem? (i := 27) (by decide +kernel), List.mem_of_getElem? (i := 282) (by decide +kernel), List.mem_of_getElem? (i := 283) (by decide +kernel)⟩
theorem lw_p19 : lw_okq (⟨"LineTemplates$State", "lineAt", "(I)LLineTemplates$Line;"⟩, 7) := ⟨⟨by decide +kernel, by decide +kernel⟩, List.mem_of_getElem? (i := 66) (by decide +kernel), List.mem_of_getElem? (i := 286) (by decide +kernel), List.mem_of_getElem? (i := 287) (by decide +kernel)⟩
theorem lw_p20 : lw_okq (⟨"LineTemplates$Line", "valueAt", "(I)I"⟩, 7) := ⟨⟨by decide +kernel, by decide +kernel⟩, List.mem_of_getElem? (i := 27) (by decide +kernel), List.mem_of_getElem? (i := 290) (by decide +kernel), List.mem_of_getElem? (i := 291) (by decide +kernel)⟩
theorem lw_p21 : lw_okq (⟨"LineTemplates$State", "templateAt", "(I)I"⟩, 7) := ⟨⟨by decide +kernel, by decide +kernel⟩, List.mem_of_getElem? (i := 66) (by decide +kernel), List.mem_of_getElem? (i := 299) (by decide +kernel), List.mem_of_getElem? (i := 300) (by decide +kernel)⟩
theorem lw_p22 : lw_okq (⟨"java/lang/Throwable", "fillInStackTrace", "(I)Ljava/lang/Throwable;"⟩, 6) := ⟨⟨by decide +kernel, by decide +kernel⟩, List.mem_of_getElem? (i := 382) (by decide +kernel), List.mem_of_getElem? (i := 380) (by decide +kernel), List.mem_of_getElem? (i := 381) (by decide +kernel)⟩
theorem lw_p23 : lw_okq (⟨"LineTemplates", "checkLine", "(I)V"⟩, 10) := ⟨⟨by decide +kernel, by decide +kernel⟩, List.mem_of_getElem? (i := 19) (by decide +kernel), List.mem_of_getElem? (i := 463) (by decide +kernel), List.mem_of_getElem? (i := 464) (by decide +kernel)⟩
theorem lw_p24 : lw_okq (⟨"LineTemplates$Line", "characterAt", "(I)I"⟩, 7) := ⟨⟨by decide +kernel, by decide +kernel⟩, List.mem_of_getElem? (i := 27) (by decide +kernel), List.mem_of_getElem? (i := 497) (by decide +kernel), List.mem_of_getElem? (i := 498) (by decide +kernel)⟩
theorem lw_p25 : lw_okq (⟨"LineTemplates", "checkTemplate", "(I)V"⟩, 10) := ⟨⟨by decide +kernel, by decide +kernel⟩, List.mem_of_getElem? (i := 19) (by decide +kernel), List.mem_of_getElem? (i := 520) (by decide +kernel), List.mem_of_getElem? (i := 521) (by decide +kernel)⟩
theorem lw_p26 : lw_okq (⟨"LineTemplates$State", "firstOf", "(I)I"⟩, 7) := ⟨⟨by decide +kernel, by decide +kernel⟩, List.mem_of_getElem? (i := 66) (by decide +kernel), List.mem_of_getElem? (i := 528) (by decide +kernel), List.mem_of_getElem? (i := 529) (by decide +kernel)⟩
theorem lw_p27 : lw_okq (⟨"LineTemplates$State", "templateFor", "(LLineTemplates$Line;)I"⟩, 7) := ⟨⟨by decide +kernel, by decide +kernel⟩, List.mem_of_getElem? (i := 66) (by decide +kernel), List.mem_of_getElem? (i := 567) (by decide +kernel), List.mem_of_getElem? (i := 568) (by decide +kernel)⟩
theorem lw_p28 : lw_okq (⟨"LineTemplates$State", "put", "(LLineTemplates$Line;I)V"⟩, 7) := ⟨⟨by decide +kernel, by decide +kernel⟩, List.mem_of_getElem? (i := 66) (by decide +kernel), List.mem_of_getElem? (i := 573) (by decide +kernel), List.mem_of_getElem? (i := 574) (by decide +kernel)⟩
theorem lw_p29 : lw_okq (⟨"LineTemplates$State", "dropLine", "(I)V"⟩, 7) := ⟨⟨by decide +kernel, by decide +kernel⟩, List.mem_of_getElem? (i := 66) (by decide +kernel), List.mem_of_getElem? (i := 591) (by decide +kernel), List.mem_of_getElem? (i := 592) (by decide +kernel)⟩
theorem lw_p30 : lw_okq (⟨"LineTemplates$State", "hasLine", "(I)Z"⟩, 7) := ⟨⟨by decide +kernel, by decide +kernel⟩, List.mem_of_getElem? (i := 66) (by decide +kernel), List.mem_of_getElem? (i := 595) (by decide +kernel), List.mem_of_getElem? (i := 596) (by decide +kernel)⟩
theorem lw_p31 : lw_okq (⟨"LineTemplates$State", "takeLinesOf", "(LLineTemplates$State;)Z"⟩, 7) := ⟨⟨by decide +kernel, by decide +kernel⟩, List.mem_of_getElem? (i := 66) (by decide +kernel), List.mem_of_getElem? (i := 616) (by decide +kernel), List.mem_of_getElem? (i := 617) (by decide +kernel)⟩
def lw_privs_2 : List (MethodName × Nat) := [(⟨"LineTemplates$State", "fits", "(LLineTemplates$Line;I)Z"⟩, 7), (⟨"LineTemplates$State", "lastOf", "(II)I"⟩, 7), (⟨"LineTemplates$Line", "sizeAt", "(I)I"⟩, 7), (⟨"LineTemplates$State", "lineAt", "(I)LLineTemplates$Line;"⟩, 7), (⟨"LineTemplates$Line", "valueAt", "(I)I"⟩, 7), (⟨"LineTemplates$State", "templateAt", "(I)I"⟩, 7), (⟨"java/lang/Throwable", "fillInStackTrace", "(I)Ljava/lang/Throwable;"⟩, 6), (⟨"LineTemplates", "checkLine", "(I)V"⟩, 10), (⟨"LineTemplates$Line", "characterAt", "(I)I"⟩, 7), (⟨"LineTemplates", "checkTemplate", "(I)V"⟩, 10), (⟨"LineTemplates$State", "firstOf", "(I)I"⟩, 7), (⟨"LineTemplates$State", "templateFor", "(LLineTemplates$Line;)I"⟩, 7), (⟨"LineTemplates$State", "put", "(LLineTemplates$Line;I)V"⟩, 7), (⟨"LineTemplates$State", "dropLine", "(I)V"⟩, 7), (⟨"LineTemplates$State", "hasLine", "(I)Z"⟩, 7), (⟨"LineTemplates$State", "takeLinesOf", "(LLineTemplates$State;)Z"⟩, 7)]
theorem lw_r2 : ∀ q ∈ lw_privs_2, lw_okq q := List.forall_mem_cons.mpr ⟨lw_p16, List.forall_mem_cons.mpr ⟨lw_p17, List.forall_mem_cons.mpr ⟨lw_p18, List.forall_mem_cons.mpr ⟨lw_p19, List.forall_mem_cons.mpr ⟨lw_p20, List.forall_mem_cons.mpr ⟨lw_p21, List.forall_mem_cons.mpr ⟨lw_p22, List.forall_mem_cons.mpr ⟨lw_p23, List.forall_mem_cons.mpr ⟨lw_p24, List.forall_mem_cons.mpr ⟨lw_p25, List.forall_mem_cons.mpr ⟨lw_p26, List.forall_mem_cons.mpr ⟨lw_p27, List.forall_mem_cons.mpr ⟨lw_p28, List.forall_mem_cons.mpr ⟨lw_p29, List.forall_mem_cons.mpr ⟨lw_p30, List.forall_mem_cons.mpr ⟨lw_p31, fun _ h => absurd h List.not_mem_nil⟩⟩⟩⟩⟩⟩⟩⟩⟩⟩⟩⟩⟩⟩⟩⟩
theorem lw_p32 : lw_okq (⟨"LineTemplates$History", "takeBack", "(LLineTemplates$State;)V"⟩, 3) := ⟨⟨by decide +kernel, by decide +kernel⟩, List.mem_of_getElem? (i := 104) (by decide +kernel), List.mem_of_getElem? (i := 632) (by decide +kernel), List.mem_of_getElem? (i := 633) (by decide +kernel)⟩
theorem lw_p33 : lw_okq (⟨"LineTemplates$Line", "startAt", "(I)I"⟩, 7) := ⟨⟨by decide +kernel, by decide +kernel⟩, List.mem_of_getElem? (i := 27) (by decide +kernel), List.mem_of_getElem? (i := 664) (by decide +kernel), List.mem_of_getElem? (i := 665) (by decide +kernel)⟩
theorem lw_p34 : lw_okq (⟨"LineTemplates", "simulateLines", "(JI)V"⟩, 10) := ⟨⟨by decide +kernel, by decide +kernel⟩, List.mem_of_getElem? (i := 19) (by decide +kernel), List.mem_of_getElem? (i := 731) (by decide +kernel), List.mem_of_getElem? (i := 732) (by decide +kernel)⟩
theorem lw_p35 : lw_okq (⟨"LineTemplates$Line", "addNumber", "(I)V"⟩, 7) := ⟨⟨by decide +kernel, by decide +kernel⟩, List.mem_of_getElem? (i := 27) (by decide +kernel), List.mem_of_getElem? (i := 740) (by decide +kernel), List.mem_of_getElem? (i := 741) (by decide +kernel)⟩
theorem lw_p36 : lw_okq (⟨"LineTemplates$History", "forgetAll", "()V"⟩, 3) := ⟨⟨by decide +kernel, by decide +kernel⟩, List.mem_of_getElem? (i := 104) (by decide +kernel), List.mem_of_getElem? (i := 768) (by decide +kernel), List.mem_of_getElem? (i := 769) (by decide +kernel)⟩
theorem lw_p37 : lw_okq (⟨"LineTemplatesModel", "refused", "(I)Z"⟩, 16) := ⟨⟨by decide +kernel, by decide +kernel⟩, List.mem_of_getElem? (i := 772) (by decide +kernel), List.mem_of_getElem? (i := 839) (by decide +kernel), List.mem_of_getElem? (i := 840) (by decide +kernel)⟩
theorem lw_p38 : lw_okq (⟨"LineTemplatesModel", "wrong", "()I"⟩, 16) := ⟨⟨by decide +kernel, by decide +kernel⟩, List.mem_of_getElem? (i := 772) (by decide +kernel), List.mem_of_getElem? (i := 851) (by decide +kernel), List.mem_of_getElem? (i := 852) (by decide +kernel)⟩
theorem lw_p39 : lw_okq (⟨"LineTemplatesModel", "costOfLines", "([I)I"⟩, 16) := ⟨⟨by decide +kernel, by decide +kernel⟩, List.mem_of_getElem? (i := 772) (by decide +kernel), List.mem_of_getElem? (i := 870) (by decide +kernel), List.mem_of_getElem? (i := 871) (by decide +kernel)⟩
theorem lw_p40 : lw_okq (⟨"LineTemplatesModel", "costOfLine", "([II)I"⟩, 16) := ⟨⟨by decide +kernel, by decide +kernel⟩, List.mem_of_getElem? (i := 772) (by decide +kernel), List.mem_of_getElem? (i := 874) (by decide +kernel), List.mem_of_getElem? (i := 875) (by decide +kernel)⟩
theorem lw_p41 : lw_okq (⟨"LineTemplatesModel", "numberCost", "([IIII)I"⟩, 16) := ⟨⟨by decide +kernel, by decide +kernel⟩, List.mem_of_getElem? (i := 772) (by decide +kernel), List.mem_of_getElem? (i := 884) (by decide +kernel), List.mem_of_getElem? (i := 885) (by decide +kernel)⟩
theorem lw_p42 : lw_okq (⟨"LineTemplatesModel", "cut", "([III)I"⟩, 16) := ⟨⟨by decide +kernel, by decide +kernel⟩, List.mem_of_getElem? (i := 772) (by decide +kernel), List.mem_of_getElem? (i := 891) (by decide +kernel), List.mem_of_getElem? (i := 892) (by decide +kernel)⟩
theorem lw_p43 : lw_okq (⟨"LineTemplatesModel", "valueAt", "([II)I"⟩, 16) := ⟨⟨by decide +kernel, by decide +kernel⟩, List.mem_of_getElem? (i := 772) (by decide +kernel), List.mem_of_getElem? (i := 895) (by decide +kernel), List.mem_of_getElem? (i := 896) (by decide +kernel)⟩
theorem lw_p44 : lw_okq (⟨"LineTemplatesModel", "wordCost", "([IIII)I"⟩, 16) := ⟨⟨by decide +kernel, by decide +kernel⟩, List.mem_of_getElem? (i := 772) (by decide +kernel), List.mem_of_getElem? (i := 899) (by decide +kernel), List.mem_of_getElem? (i := 900) (by decide +kernel)⟩
theorem lw_p45 : lw_okq (⟨"LineTemplatesModel", "areSame", "([III)Z"⟩, 16) := ⟨⟨by decide +kernel, by decide +kernel⟩, List.mem_of_getElem? (i := 772) (by decide +kernel), List.mem_of_getElem? (i := 903) (by decide +kernel), List.mem_of_getElem? (i := 904) (by decide +kernel)⟩
theorem lw_p46 : lw_okq (⟨"LineTemplatesModel", "costOfTemplates", "([I)I"⟩, 16) := ⟨⟨by decide +kernel, by decide +kernel⟩, List.mem_of_getElem? (i := 772) (by decide +kernel), List.mem_of_getElem? (i := 907) (by decide +kernel), List.mem_of_getElem? (i := 908) (by decide +kernel)⟩
theorem lw_p47 : lw_okq (⟨"LineTemplatesModel", "costOfTemplate", "([II)I"⟩, 16) := ⟨⟨by decide +kernel, by decide +kernel⟩, List.mem_of_getElem? (i := 772) (by decide +kernel), List.mem_of_getElem? (i := 911) (by decide +kernel), List.mem_of_getElem? (i := 912) (by decide +kernel)⟩
def lw_privs_3 : List (MethodName × Nat) := [(⟨"LineTemplates$History", "takeBack", "(LLineTemplates$State;)V"⟩, 3), (⟨"LineTemplates$Line", "startAt", "(I)I"⟩, 7), (⟨"LineTemplates", "simulateLines", "(JI)V"⟩, 10), (⟨"LineTemplates$Line", "addNumber", "(I)V"⟩, 7), (⟨"LineTemplates$History", "forgetAll", "()V"⟩, 3), (⟨"LineTemplatesModel", "refused", "(I)Z"⟩, 16), (⟨"LineTemplatesModel", "wrong", "()I"⟩, 16), (⟨"LineTemplatesModel", "costOfLines", "([I)I"⟩, 16), (⟨"LineTemplatesModel", "costOfLine", "([II)I"⟩, 16), (⟨"LineTemplatesModel", "numberCost", "([IIII)I"⟩, 16), (⟨"LineTemplatesModel", "cut", "([III)I"⟩, 16), (⟨"LineTemplatesModel", "valueAt", "([II)I"⟩, 16), (⟨"LineTemplatesModel", "wordCost", "([IIII)I"⟩, 16), (⟨"LineTemplatesModel", "areSame", "([III)Z"⟩, 16), (⟨"LineTemplatesModel", "costOfTemplates", "([I)I"⟩, 16), (⟨"LineTemplatesModel", "costOfTemplate", "([II)I"⟩, 16)]
theorem lw_r3 : ∀ q ∈ lw_privs_3, lw_okq q := List.forall_mem_cons.mpr ⟨lw_p32, List.forall_mem_cons.mpr ⟨lw_p33, List.forall_mem_cons.mpr ⟨lw_p34, List.forall_mem_cons.mpr ⟨lw_p35, List.forall_mem_cons.mpr ⟨lw_p36, List.forall_mem_cons.mpr ⟨lw_p37, List.forall_mem_cons.mpr ⟨lw_p38, List.forall_mem_cons.mpr ⟨lw_p39, List.forall_mem_cons.mpr ⟨lw_p40, List.forall_mem_cons.mpr ⟨lw_p41, List.forall_mem_cons.mpr ⟨lw_p42, List.forall_mem_cons.mpr ⟨lw_p43, List.forall_mem_cons.mpr ⟨lw_p44, List.forall_mem_cons.mpr ⟨lw_p45, List.forall_mem_cons.mpr ⟨lw_p46, List.forall_mem_cons.mpr ⟨lw_p47, fun _ h => absurd h List.not_mem_nil⟩⟩⟩⟩⟩⟩⟩⟩⟩⟩⟩⟩⟩⟩⟩⟩
theorem lw_p48 : lw_okq (⟨"LineTemplatesModel", "differentWords", "([I)I"⟩, 16) := ⟨⟨by decide +kernel, by decide +kernel⟩, List.mem_of_getElem? (i := 772) (by decide +kernel), List.mem_of_getElem? (i := 918) (by decide +kernel), List.mem_of_getElem? (i := 919) (by decide +kernel)⟩
theorem lw_p49 : lw_okq (⟨"LineTemplatesModel", "isNewWord", "([III)Z"⟩, 16) := ⟨⟨by decide +kernel, by decide +kernel⟩, List.mem_of_getElem? (i := 772) (by decide +kernel), List.mem_of_getElem? (i := 922) (by decide +kernel), List.mem_of_getElem? (i := 923) (by decide +kernel)⟩
theorem lw_p50 : lw_okq (⟨"LineTemplatesModel", "isNewThing", "([IIII)Z"⟩, 16) := ⟨⟨by decide +kernel, by decide +kernel⟩, List.mem_of_getElem? (i := 772) (by decide +kernel), List.mem_of_getElem? (i := 964) (by decide +kernel), List.mem_of_getElem? (i := 965) (by decide +kernel)⟩
theorem lw_p51 : lw_okq (⟨"LineTemplatesModel", "layText", "([I)V"⟩, 16) := ⟨⟨by decide +kernel, by decide +kernel⟩, List.mem_of_getElem? (i := 772) (by decide +kernel), List.mem_of_getElem? (i := 979) (by decide +kernel), List.mem_of_getElem? (i := 980) (by decide +kernel)⟩
theorem lw_p52 : lw_okq (⟨"LineTemplatesModel", "canSettle", "([I)Z"⟩, 16) := ⟨⟨by decide +kernel, by decide +kernel⟩, List.mem_of_getElem? (i := 772) (by decide +kernel), List.mem_of_getElem? (i := 983) (by decide +kernel), List.mem_of_getElem? (i := 984) (by decide +kernel)⟩
theorem lw_p53 : lw_okq (⟨"LineTemplatesModel", "templateFor", "([II)I"⟩, 16) := ⟨⟨by decide +kernel, by decide +kernel⟩, List.mem_of_getElem? (i := 772) (by decide +kernel), List.mem_of_getElem? (i := 987) (by decide +kernel), List.mem_of_getElem? (i := 988) (by decide +kernel)⟩
theorem lw_p54 : lw_okq (⟨"LineTemplatesModel", "fits", "([III)Z"⟩, 16) := ⟨⟨by decide +kernel, by decide +kernel⟩, List.mem_of_getElem? (i := 772) (by decide +kernel), List.mem_of_getElem? (i := 991) (by decide +kernel), List.mem_of_getElem? (i := 992) (by decide +kernel)⟩
theorem lw_p55 : lw_okq (⟨"LineTemplatesModel", "remember", "()V"⟩, 16) := ⟨⟨by decide +kernel, by decide +kernel⟩, List.mem_of_getElem? (i := 772) (by decide +kernel), List.mem_of_getElem? (i := 995) (by decide +kernel), List.mem_of_getElem? (i := 996) (by decide +kernel)⟩
theorem lw_p56 : lw_okq (⟨"LineTemplatesModel", "settle", "([I)I"⟩, 16) := ⟨⟨by decide +kernel, by decide +kernel⟩, List.mem_of_getElem? (i := 772) (by decide +kernel), List.mem_of_getElem? (i := 1002) (by decide +kernel), List.mem_of_getElem? (i := 1003) (by decide +kernel)⟩
theorem lw_p57 : lw_okq (⟨"LineTemplatesModel", "addTemplate", "([II)V"⟩, 16) := ⟨⟨by decide +kernel, by decide +kernel⟩, List.mem_of_getElem? (i := 772) (by decide +kernel), List.mem_of_getElem? (i := 1006) (by decide +kernel), List.mem_of_getElem? (i := 1007) (by decide +kernel)⟩
theorem lw_p58 : lw_okq (⟨"LineTemplatesModel", "againOn", "([II)I"⟩, 16) := ⟨⟨by decide +kernel, by decide +kernel⟩, List.mem_of_getElem? (i := 772) (by decide +kernel), List.mem_of_getElem? (i := 1014) (by decide +kernel), List.mem_of_getElem? (i := 1015) (by decide +kernel)⟩
theorem lw_p59 : lw_okq (⟨"LineTemplatesModel", "learnOn", "([I)I"⟩, 16) := ⟨⟨by decide +kernel, by decide +kernel⟩, List.mem_of_getElem? (i := 772) (by decide +kernel), List.mem_of_getElem? (i := 1035) (by decide +kernel), List.mem_of_getElem? (i := 1036) (by decide +kernel)⟩
theorem lw_p60 : lw_okq (⟨"LineTemplatesModel", "partsAt", "([III)I"⟩, 16) := ⟨⟨by decide +kernel, by decide +kernel⟩, List.mem_of_getElem? (i := 772) (by decide +kernel), List.mem_of_getElem? (i := 1039) (by decide +kernel), List.mem_of_getElem? (i := 1040) (by decide +kernel)⟩
theorem lw_p61 : lw_okq (⟨"LineTemplatesModel", "learnAllOn", "([I)I"⟩, 16) := ⟨⟨by decide +kernel, by decide +kernel⟩, List.mem_of_getElem? (i := 772) (by decide +kernel), List.mem_of_getElem? (i := 1047) (by decide +kernel), List.mem_of_getElem? (i := 1048) (by decide +kernel)⟩
theorem lw_p62 : lw_okq (⟨"LineTemplatesModel", "anew", "([I)Z"⟩, 16) := ⟨⟨by decide +kernel, by decide +kernel⟩, List.mem_of_getElem? (i := 772) (by decide +kernel), List.mem_of_getElem? (i := 1059) (by decide +kernel), List.mem_of_getElem? (i := 1060) (by decide +kernel)⟩
theorem lw_p63 : lw_okq (⟨"LineTemplatesModel", "layAhead", "(I)V"⟩, 16) := ⟨⟨by decide +kernel, by decide +kernel⟩, List.mem_of_getElem? (i := 772) (by decide +kernel), List.mem_of_getElem? (i := 1083) (by decide +kernel), List.mem_of_getElem? (i := 1084) (by decide +kernel)⟩
def lw_privs_4 : List (MethodName × Nat) := [(⟨"LineTemplatesModel", "differentWords", "([I)I"⟩, 16), (⟨"LineTemplatesModel", "isNewWord", "([III)Z"⟩, 16), (⟨"LineTemplatesModel", "isNewThing", "([IIII)Z"⟩, 16), (⟨"LineTemplatesModel", "layText", "([I)V"⟩, 16), (⟨"LineTemplatesModel", "canSettle", "([I)Z"⟩, 16), (⟨"LineTemplatesModel", "templateFor", "([II)I"⟩, 16), (⟨"LineTemplatesModel", "fits", "([III)Z"⟩, 16), (⟨"LineTemplatesModel", "remember", "()V"⟩, 16), (⟨"LineTemplatesModel", "settle", "([I)I"⟩, 16), (⟨"LineTemplatesModel", "addTemplate", "([II)V"⟩, 16), (⟨"LineTemplatesModel", "againOn", "([II)I"⟩, 16), (⟨"LineTemplatesModel", "learnOn", "([I)I"⟩, 16), (⟨"LineTemplatesModel", "partsAt", "([III)I"⟩, 16), (⟨"LineTemplatesModel", "learnAllOn", "([I)I"⟩, 16), (⟨"LineTemplatesModel", "anew", "([I)Z"⟩, 16), (⟨"LineTemplatesModel", "layAhead", "(I)V"⟩, 16)]
theorem lw_r4 : ∀ q ∈ lw_privs_4, lw_okq q := List.forall_mem_cons.mpr ⟨lw_p48, List.forall_mem_cons.mpr ⟨lw_p49, List.forall_mem_cons.mpr ⟨lw_p50, List.forall_mem_cons.mpr ⟨lw_p51, List.forall_mem_cons.mpr ⟨lw_p52, List.forall_mem_cons.mpr ⟨lw_p53, List.forall_mem_cons.mpr ⟨lw_p54, List.forall_mem_cons.mpr ⟨lw_p55, List.forall_mem_cons.mpr ⟨lw_p56, List.forall_mem_cons.mpr ⟨lw_p57, List.forall_mem_cons.mpr ⟨lw_p58, List.forall_mem_cons.mpr ⟨lw_p59, List.forall_mem_cons.mpr ⟨lw_p60, List.forall_mem_cons.mpr ⟨lw_p61, List.forall_mem_cons.mpr ⟨lw_p62, List.forall_mem_cons.mpr ⟨lw_p63, fun _ h => absurd h List.not_mem_nil⟩⟩⟩⟩⟩⟩⟩⟩⟩⟩⟩⟩⟩⟩⟩⟩
theorem lw_p64 : lw_okq (⟨"LineTemplatesModel", "write", "(II)V"⟩, 16) := ⟨⟨by decide +kernel, by decide +kernel⟩, List.mem_of_getElem? (i := 772) (by decide +kernel), List.mem_of_getElem? (i := 1091) (by decide +kernel), List.mem_of_getElem? (i := 1092) (by decide +kernel)⟩
theorem lw_p65 : lw_okq (⟨"LineTemplatesModel", "command", "(III)Z"⟩, 16) := ⟨⟨by decide +kernel, by decide +kernel⟩, List.mem_of_getElem? (i := 772) (by decide +kernel), List.mem_of_getElem? (i := 1106) (by decide +kernel), List.mem_of_getElem? (i := 1107) (by decide +kernel)⟩
theorem lw_p66 : lw_okq (⟨"LineTemplatesModel", "layDrawn", "(II)V"⟩, 16) := ⟨⟨by decide +kernel, by decide +kernel⟩, List.mem_of_getElem? (i := 772) (by decide +kernel), List.mem_of_getElem? (i := 1117) (by decide +kernel), List.mem_of_getElem? (i := 1118) (by decide +kernel)⟩
theorem lw_p67 : lw_okq (⟨"LineTemplatesModel", "laySign", "(I)V"⟩, 16) := ⟨⟨by decide +kernel, by decide +kernel⟩, List.mem_of_getElem? (i := 772) (by decide +kernel), List.mem_of_getElem? (i := 1121) (by decide +kernel), List.mem_of_getElem? (i := 1122) (by decide +kernel)⟩
theorem lw_p68 : lw_okq (⟨"LineTemplatesModel", "layDigits", "(I)V"⟩, 16) := ⟨⟨by decide +kernel, by decide +kernel⟩, List.mem_of_getElem? (i := 772) (by decide +kernel), List.mem_of_getElem? (i := 1125) (by decide +kernel), List.mem_of_getElem? (i := 1126) (by decide +kernel)⟩
def lw_privs_5 : List (MethodName × Nat) := [(⟨"LineTemplatesModel", "write", "(II)V"⟩, 16), (⟨"LineTemplatesModel", "command", "(III)Z"⟩, 16), (⟨"LineTemplatesModel", "layDrawn", "(II)V"⟩, 16), (⟨"LineTemplatesModel", "laySign", "(I)V"⟩, 16), (⟨"LineTemplatesModel", "layDigits", "(I)V"⟩, 16)]
theorem lw_r5 : ∀ q ∈ lw_privs_5, lw_okq q := List.forall_mem_cons.mpr ⟨lw_p64, List.forall_mem_cons.mpr ⟨lw_p65, List.forall_mem_cons.mpr ⟨lw_p66, List.forall_mem_cons.mpr ⟨lw_p67, List.forall_mem_cons.mpr ⟨lw_p68, fun _ h => absurd h List.not_mem_nil⟩⟩⟩⟩⟩
def lw_privs : List (MethodName × Nat) := lw_privs_1 ++ (lw_privs_2 ++ (lw_privs_3 ++ (lw_privs_4 ++ (lw_privs_5))))
def lw_tbl : List Cond := k2_sels lw_privs ++ tables_1
theorem lw_privs_ok : ∀ q ∈ lw_privs, lw_okq q := by
  show ∀ q ∈ lw_privs_1 ++ (lw_privs_2 ++ (lw_privs_3 ++ (lw_privs_4 ++ (lw_privs_5)))), lw_okq q
  exact List.forall_mem_append.mpr ⟨lw_r1, List.forall_mem_append.mpr ⟨lw_r2, List.forall_mem_append.mpr ⟨lw_r3, List.forall_mem_append.mpr ⟨lw_r4, lw_r5⟩⟩⟩⟩
-- ===== end of PART A; then your names; then what follows =====
end
section
/-! the claim's methods as lists: (pc, instruction, aux); written by wip/whole/emittab.py out of the statement's own bytes -/
abbrev mv_V : Type := Nat × Int
abbrev mv_K : Type := List (Nat × Instr × Int)
abbrev q_Math_floorMod : Nat := 0
abbrev q_Math_max : Nat := 1
abbrev q_Math_min : Nat := 2
abbrev q_Obj_init : Nat := 3
abbrev q_Line_init : Nat := 4
abbrev q_Line_clear : Nat := 5
abbrev q_Line_addCharacter : Nat := 6
abbrev q_Line_growsLastPiece : Nat := 7
abbrev q_Line_kindAt : Nat := 8
abbrev q_Line_isWrittenLike : Nat := 9
abbrev q_Line_sizeAt : Nat := 10
abbrev q_Line_valueAt : Nat := 11
abbrev q_Line_characterAt : Nat := 12
abbrev q_Line_startAt : Nat := 13
abbrev q_Line_addNumber : Nat := 14
abbrev q_State_init : Nat := 15
abbrev q_State_copyFrom : Nat := 16
abbrev q_State_sampleAt : Nat := 17
abbrev q_State_kindIn : Nat := 18
abbrev q_State_isOpen : Nat := 19
abbrev q_State_openWord : Nat := 20
abbrev q_State_moveLines : Nat := 21
abbrev q_State_dropTemplate : Nat := 22
abbrev q_State_firstFit : Nat := 23
abbrev q_State_fits : Nat := 24
abbrev q_State_lastOf : Nat := 25
abbrev q_State_lineAt : Nat := 26
abbrev q_State_templateAt : Nat := 27
abbrev q_State_firstOf : Nat := 28
abbrev q_State_templateFor : Nat := 29
abbrev q_State_put : Nat := 30
abbrev q_State_dropLine : Nat := 31
abbrev q_State_hasLine : Nat := 32
abbrev q_State_takeLinesOf : Nat := 33
abbrev q_Hist_init : Nat := 34
abbrev q_Hist_remember : Nat := 35
abbrev q_Hist_placeBehindOldest : Nat := 36
abbrev q_Hist_takeBack : Nat := 37
abbrev q_Hist_forgetAll : Nat := 38
abbrev q_LT_init : Nat := 39
abbrev q_LT_clearText : Nat := 40
abbrev q_LT_errorPosition : Nat := 41
abbrev q_LT_readText : Nat := 42
abbrev q_LT_kindOfCharacter : Nat := 43
abbrev q_LT_learn : Nat := 44
abbrev q_LT_isSlot : Nat := 45
abbrev q_LT_learnAll : Nat := 46
abbrev q_LT_which : Nat := 47
abbrev q_LT_wouldCost : Nat := 48
abbrev q_LT_saves : Nat := 49
abbrev q_LT_append : Nat := 50
abbrev q_LT_about : Nat := 51
abbrev q_LT_line : Nat := 52
abbrev q_LT_checkLine : Nat := 53
abbrev q_LT_charAt : Nat := 54
abbrev q_LT_value : Nat := 55
abbrev q_LT_checkPiece : Nat := 56
abbrev q_LT_template : Nat := 57
abbrev q_LT_checkTemplate : Nat := 58
abbrev q_LT_piece : Nat := 59
abbrev q_LT_rises : Nat := 60
abbrev q_LT_take : Nat := 61
abbrev q_LT_again : Nat := 62
abbrev q_LT_remove : Nat := 63
abbrev q_LT_open : Nat := 64
abbrev q_LT_forget : Nat := 65
abbrev q_LT_undo : Nat := 66
abbrev q_LT_next : Nat := 67
abbrev q_LT_countDigits : Nat := 68
abbrev q_LT_digitCharacter : Nat := 69
abbrev q_LT_withValue : Nat := 70
abbrev q_LT_runScript : Nat := 71
abbrev q_LT_simulate : Nat := 72
abbrev q_LT_simulateLines : Nat := 73
abbrev q_LT_writeSimulated : Nat := 74
abbrev q_LT_save : Nat := 75
abbrev q_LT_checkSlot : Nat := 76
abbrev q_LT_restore : Nat := 77
abbrev q_Costs_ofLineAt : Nat := 78
abbrev q_Costs_ofNumber : Nat := 79
abbrev q_Costs_ofAll : Nat := 80
abbrev q_Costs_ofLines : Nat := 81
abbrev q_Costs_ofTemplates : Nat := 82
abbrev q_Costs_ofTemplate : Nat := 83
abbrev q_Counts_isSeenBefore : Nat := 84
abbrev q_Counts_charactersOfLines : Nat := 85
abbrev q_Counts_slotsOfTemplates : Nat := 86
abbrev q_Counts_slotsOfTemplate : Nat := 87
abbrev q_Counts_differentWords : Nat := 88
abbrev q_Counts_isWordBefore : Nat := 89
abbrev q_Counts_linesBefore : Nat := 90
abbrev q_Counts_differentThings : Nat := 91
abbrev q_Counts_risingLines : Nat := 92
abbrev q_Counts_linesWithValue : Nat := 93
abbrev q_Counts_hasValue : Nat := 94
abbrev q_Exp_valueBehind : Nat := 95
abbrev q_Exp_characterAt : Nat := 96
abbrev q_Exp_digitsFor : Nat := 97
abbrev q_Learn_learnFirstPair : Nat := 98
abbrev q_Learn_onlyDifference : Nat := 99
abbrev q_Learn_learnAllPairs : Nat := 100
abbrev q_Scr_withoutLowestGroups : Nat := 101
abbrev q_Scr_succeeds : Nat := 102
abbrev q_Scr_takesAgain : Nat := 103
abbrev q_Scr_removes : Nat := 104
abbrev q_Scr_opens : Nat := 105
abbrev q_Mod_init : Nat := 106
abbrev q_Mod_thrown : Nat := 107
abbrev q_Mod_append : Nat := 108
abbrev q_Mod_in : Nat := 109
abbrev q_Mod_refused : Nat := 110
abbrev q_Mod_clearText : Nat := 111
abbrev q_Mod_errorPosition : Nat := 112
abbrev q_Mod_wrong : Nat := 113
abbrev q_Mod_signKind : Nat := 114
abbrev q_Mod_about : Nat := 115
abbrev q_Mod_lineAt : Nat := 116
abbrev q_Mod_costOfLines : Nat := 117
abbrev q_Mod_costOfLine : Nat := 118
abbrev q_Mod_templateAt : Nat := 119
abbrev q_Mod_kindOf : Nat := 120
abbrev q_Mod_numberCost : Nat := 121
abbrev q_Mod_lineBefore : Nat := 122
abbrev q_Mod_cut : Nat := 123
abbrev q_Mod_valueAt : Nat := 124
abbrev q_Mod_wordCost : Nat := 125
abbrev q_Mod_areSame : Nat := 126
abbrev q_Mod_costOfTemplates : Nat := 127
abbrev q_Mod_costOfTemplate : Nat := 128
abbrev q_Mod_firstLine : Nat := 129
abbrev q_Mod_differentWords : Nat := 130
abbrev q_Mod_isNewWord : Nat := 131
abbrev q_Mod_slots : Nat := 132
abbrev q_Mod_line : Nat := 133
abbrev q_Mod_isLine : Nat := 134
abbrev q_Mod_linesOf : Nat := 135
abbrev q_Mod_charAt : Nat := 136
abbrev q_Mod_value : Nat := 137
abbrev q_Mod_template : Nat := 138
abbrev q_Mod_isTemplate : Nat := 139
abbrev q_Mod_piece : Nat := 140
abbrev q_Mod_isPiece : Nat := 141
abbrev q_Mod_isNewThing : Nat := 142
abbrev q_Mod_rises : Nat := 143
abbrev q_Mod_lastLine : Nat := 144
abbrev q_Mod_take : Nat := 145
abbrev q_Mod_layText : Nat := 146
abbrev q_Mod_canSettle : Nat := 147
abbrev q_Mod_templateFor : Nat := 148
abbrev q_Mod_fits : Nat := 149
abbrev q_Mod_remember : Nat := 150
abbrev q_Mod_copyLog : Nat := 151
abbrev q_Mod_settle : Nat := 152
abbrev q_Mod_addTemplate : Nat := 153
abbrev q_Mod_again : Nat := 154
abbrev q_Mod_againOn : Nat := 155
abbrev q_Mod_layAgain : Nat := 156
abbrev q_Mod_remove : Nat := 157
abbrev q_Mod_removeOn : Nat := 158
abbrev q_Mod_cutTemplate : Nat := 159
abbrev q_Mod_learn : Nat := 160
abbrev q_Mod_learnOn : Nat := 161
abbrev q_Mod_partsAt : Nat := 162
abbrev q_Mod_learnAll : Nat := 163
abbrev q_Mod_learnAllOn : Nat := 164
abbrev q_Mod_open : Nat := 165
abbrev q_Mod_forget : Nat := 166
abbrev q_Mod_anew : Nat := 167
abbrev q_Mod_undo : Nat := 168
abbrev q_Mod_which : Nat := 169
abbrev q_Mod_wouldCost : Nat := 170
abbrev q_Mod_saves : Nat := 171
abbrev q_Mod_next : Nat := 172
abbrev q_Mod_layAhead : Nat := 173
abbrev q_Mod_digitsOf : Nat := 174
abbrev q_Mod_write : Nat := 175
abbrev q_Mod_withValue : Nat := 176
abbrev q_Mod_runScript : Nat := 177
abbrev q_Mod_command : Nat := 178
abbrev q_Mod_simulate : Nat := 179
abbrev q_Mod_layDrawn : Nat := 180
abbrev q_Mod_laySign : Nat := 181
abbrev q_Mod_layDigits : Nat := 182
abbrev q_Mod_save : Nat := 183
abbrev q_Mod_restore : Nat := 184
abbrev q_Law_append : Nat := 185
abbrev q_Law_about : Nat := 186
abbrev q_Law_line : Nat := 187
abbrev q_Law_charAt : Nat := 188
abbrev q_Law_value : Nat := 189
abbrev q_Law_template : Nat := 190
abbrev q_Law_piece : Nat := 191
abbrev q_Law_rises : Nat := 192
abbrev q_Law_take : Nat := 193
abbrev q_Law_again : Nat := 194
abbrev q_Law_remove : Nat := 195
abbrev q_Law_open : Nat := 196
abbrev q_Law_forget : Nat := 197
abbrev q_Law_undo : Nat := 198
abbrev q_Law_next : Nat := 199
abbrev q_Law_withValue : Nat := 200
abbrev q_Law_runScript : Nat := 201
abbrev q_Law_simulate : Nat := 202
abbrev q_Law_save : Nat := 203
abbrev q_Law_restore : Nat := 204
abbrev q_Law_law : Nat := 205
def kc_Math_floorMod : mv_K := [(0, .iload_n 0, 0), (1, .iload_n 1, 0), (2, .irem, 0), (3, .istore_n 2, 0), (4, .iload_n 0, 0), (5, .iload_n 1, 0), (6, .ixor, 0), (7, .ifCond .ge (11), 0), (10, .iload_n 2, 0), (11, .ifCond .eq (7), 0), (14, .iload_n 2, 0), (15, .iload_n 1, 0), (16, .iadd, 0), (17, .ireturn, 0), (18, .iload_n 2, 0), (19, .ireturn, 0)]
def kc_Math_max : mv_K := [(0, .iload_n 0, 0), (1, .iload_n 1, 0), (2, .if_icmp .lt (7), 0), (5, .iload_n 0, 0), (6, .goto (4), 0), (9, .iload_n 1, 0), (10, .ireturn, 0)]
def kc_Math_min : mv_K := [(0, .iload_n 0, 0), (1, .iload_n 1, 0), (2, .if_icmp .gt (7), 0), (5, .iload_n 0, 0), (6, .goto (4), 0), (9, .iload_n 1, 0), (10, .ireturn, 0)]
def kc_Obj_init : mv_K := [(0, .return_, 0)]
def kc_Line_init : mv_K := [(0, .aload_n 0, 0), (1, .invokespecial 3, 3), (4, .aload_n 0, 0), (5, .bipush (40), 0), (7, .newarray .char, 0), (9, .putfield 9, 100), (12, .aload_n 0, 0), (13, .bipush (12), 0), (15, .newarray .int, 0), (17, .putfield 15, 101), (20, .aload_n 0, 0), (21, .bipush (12), 0), (23, .newarray .int, 0), (25, .putfield 19, 102), (28, .aload_n 0, 0), (29, .bipush (12), 0), (31, .newarray .int, 0), (33, .putfield 22, 103), (36, .aload_n 0, 0), (37, .bipush (12), 0), (39, .newarray .int, 0), (41, .putfield 25, 104), (44, .return_, 0)]
def kc_Line_clear : mv_K := [(0, .aload_n 0, 0), (1, .iconst 0, 0), (2, .putfield 28, 105), (5, .aload_n 0, 0), (6, .iconst 0, 0), (7, .putfield 32, 106), (10, .return_, 0)]
def kc_Line_addCharacter_0 : mv_K := [(0, .iload_n 1, 0), (1, .invokestatic 35, 1043), (4, .istore_n 2, 0), (5, .aload_n 0, 0), (6, .iload_n 2, 0), (7, .invokevirtual 39, 7), (10, .ifCond .eq (12), 0), (13, .aload_n 0, 0), (14, .getfield 32, 106), (17, .iconst 1, 0), (18, .isub, 0), (19, .goto (7), 0), (22, .aload_n 0, 0), (23, .getfield 32, 106), (26, .istore_n 3, 0), (27, .iload_n 2, 0), (28, .iconst (-1), 0), (29, .if_icmp .eq (22), 0), (32, .aload_n 0, 0), (33, .getfield 28, 105), (36, .bipush (40), 0), (38, .if_icmp .ge (13), 0), (41, .iload_n 3, 0), (42, .ifCond .lt (9), 0), (45, .iload_n 3, 0), (46, .bipush (12), 0), (48, .if_icmp .lt (5), 0), (51, .iconst 0, 0), (52, .ireturn, 0), (53, .iload_n 3, 0)]
def kc_Line_addCharacter_1 : mv_K := [(54, .aload_n 0, 0), (55, .getfield 32, 106), (58, .if_icmp .ne (44), 0), (61, .aload_n 0, 0), (62, .getfield 15, 101), (65, .iload_n 3, 0), (66, .iload_n 2, 0), (67, .iastore, 0), (68, .aload_n 0, 0), (69, .getfield 19, 102), (72, .iload_n 3, 0), (73, .aload_n 0, 0), (74, .getfield 28, 105), (77, .iastore, 0), (78, .aload_n 0, 0), (79, .getfield 22, 103), (82, .iload_n 3, 0), (83, .iconst 0, 0), (84, .iastore, 0), (85, .aload_n 0, 0), (86, .getfield 25, 104), (89, .iload_n 3, 0), (90, .iconst 0, 0), (91, .iastore, 0), (92, .aload_n 0, 0), (93, .dup, 0), (94, .getfield 32, 106), (97, .iconst 1, 0), (98, .iadd, 0), (99, .putfield 32, 106)]
def kc_Line_addCharacter_2 : mv_K := [(102, .iload_n 2, 0), (103, .iconst 3, 0), (104, .if_icmp .ne (36), 0), (107, .aload_n 0, 0), (108, .getfield 22, 103), (111, .iload_n 3, 0), (112, .iaload, 0), (113, .bipush (6), 0), (115, .if_icmp .lt (5), 0), (118, .iconst 0, 0), (119, .ireturn, 0), (120, .aload_n 0, 0), (121, .getfield 25, 104), (124, .iload_n 3, 0), (125, .aload_n 0, 0), (126, .getfield 25, 104), (129, .iload_n 3, 0), (130, .iaload, 0), (131, .bipush (10), 0), (133, .imul, 0), (134, .iload_n 1, 0), (135, .bipush (48), 0), (137, .isub, 0), (138, .iadd, 0), (139, .iastore, 0), (140, .aload_n 0, 0), (141, .getfield 9, 100), (144, .aload_n 0, 0), (145, .getfield 28, 105), (148, .iload_n 1, 0)]
def kc_Line_addCharacter_3 : mv_K := [(149, .i2c, 0), (150, .castore, 0), (151, .aload_n 0, 0), (152, .dup, 0), (153, .getfield 28, 105), (156, .iconst 1, 0), (157, .iadd, 0), (158, .putfield 28, 105), (161, .aload_n 0, 0), (162, .getfield 22, 103), (165, .iload_n 3, 0), (166, .dup2, 0), (167, .iaload, 0), (168, .iconst 1, 0), (169, .iadd, 0), (170, .iastore, 0), (171, .iconst 1, 0), (172, .ireturn, 0)]
def kc_Line_addCharacter : mv_K := kc_Line_addCharacter_0 ++ (kc_Line_addCharacter_1 ++ (kc_Line_addCharacter_2 ++ (kc_Line_addCharacter_3)))
def kc_Line_growsLastPiece : mv_K := [(0, .iload_n 1, 0), (1, .iconst 2, 0), (2, .if_icmp .eq (28), 0), (5, .aload_n 0, 0), (6, .getfield 32, 106), (9, .ifCond .le (21), 0), (12, .aload_n 0, 0), (13, .aload_n 0, 0), (14, .getfield 32, 106), (17, .iconst 1, 0), (18, .isub, 0), (19, .invokevirtual 43, 8), (22, .iload_n 1, 0), (23, .if_icmp .ne (7), 0), (26, .iconst 1, 0), (27, .goto (4), 0), (30, .iconst 0, 0), (31, .ireturn, 0)]
def kc_Line_kindAt : mv_K := [(0, .iload_n 1, 0), (1, .ifCond .lt (20), 0), (4, .iload_n 1, 0), (5, .aload_n 0, 0), (6, .getfield 32, 106), (9, .if_icmp .ge (12), 0), (12, .aload_n 0, 0), (13, .getfield 15, 101), (16, .iload_n 1, 0), (17, .iaload, 0), (18, .goto (4), 0), (21, .iconst (-1), 0), (22, .ireturn, 0)]
def kc_Line_isWrittenLike_0 : mv_K := [(0, .iload_n 1, 0), (1, .ifCond .lt (38), 0), (4, .iload_n 1, 0), (5, .aload_n 0, 0), (6, .getfield 32, 106), (9, .if_icmp .ge (30), 0), (12, .iload_n 3, 0), (13, .ifCond .lt (26), 0), (16, .iload_n 3, 0), (17, .aload_n 2, 0), (18, .getfield 32, 106), (21, .if_icmp .ge (18), 0), (24, .aload_n 0, 0), (25, .getfield 22, 103), (28, .iload_n 1, 0), (29, .iaload, 0), (30, .aload_n 2, 0), (31, .getfield 22, 103), (34, .iload_n 3, 0), (35, .iaload, 0), (36, .if_icmp .eq (5), 0), (39, .iconst 0, 0), (40, .ireturn, 0), (41, .aload_n 0, 0), (42, .getfield 19, 102), (45, .iload_n 1, 0), (46, .iaload, 0), (47, .istore 4, 0), (49, .aload_n 2, 0), (50, .getfield 19, 102)]
def kc_Line_isWrittenLike_1 : mv_K := [(53, .iload_n 3, 0), (54, .iaload, 0), (55, .istore 5, 0), (57, .iload 4, 0), (59, .istore 6, 0), (61, .iload 6, 0), (63, .iload 4, 0), (65, .aload_n 0, 0), (66, .getfield 22, 103), (69, .iload_n 1, 0), (70, .iaload, 0), (71, .iadd, 0), (72, .if_icmp .ge (49), 0), (75, .iload 6, 0), (77, .aload_n 0, 0), (78, .getfield 28, 105), (81, .if_icmp .ge (40), 0), (84, .iload 5, 0), (86, .aload_n 2, 0), (87, .getfield 28, 105), (90, .if_icmp .ge (31), 0), (93, .aload_n 0, 0), (94, .getfield 9, 100), (97, .iload 6, 0), (99, .caload, 0), (100, .aload_n 2, 0), (101, .getfield 9, 100), (104, .iload 5, 0), (106, .caload, 0), (107, .if_icmp .eq (5), 0)]
def kc_Line_isWrittenLike_2 : mv_K := [(110, .iconst 0, 0), (111, .ireturn, 0), (112, .iinc 5 (1), 0), (115, .iinc 6 (1), 0), (118, .goto (-57), 0), (121, .iconst 1, 0), (122, .ireturn, 0)]
def kc_Line_isWrittenLike : mv_K := kc_Line_isWrittenLike_0 ++ (kc_Line_isWrittenLike_1 ++ (kc_Line_isWrittenLike_2))
def kc_Line_sizeAt : mv_K := [(0, .iload_n 1, 0), (1, .ifCond .lt (20), 0), (4, .iload_n 1, 0), (5, .aload_n 0, 0), (6, .getfield 32, 106), (9, .if_icmp .ge (12), 0), (12, .aload_n 0, 0), (13, .getfield 22, 103), (16, .iload_n 1, 0), (17, .iaload, 0), (18, .goto (4), 0), (21, .iconst 0, 0), (22, .ireturn, 0)]
def kc_Line_valueAt : mv_K := [(0, .iload_n 1, 0), (1, .ifCond .lt (30), 0), (4, .iload_n 1, 0), (5, .aload_n 0, 0), (6, .getfield 32, 106), (9, .if_icmp .ge (22), 0), (12, .aload_n 0, 0), (13, .getfield 15, 101), (16, .iload_n 1, 0), (17, .iaload, 0), (18, .iconst 3, 0), (19, .if_icmp .ne (12), 0), (22, .aload_n 0, 0), (23, .getfield 25, 104), (26, .iload_n 1, 0), (27, .iaload, 0), (28, .goto (6), 0), (31, .sipush (-9999), 0), (34, .ireturn, 0)]
def kc_Line_characterAt : mv_K := [(0, .iload_n 1, 0), (1, .ifCond .lt (11), 0), (4, .iload_n 1, 0), (5, .aload_n 0, 0), (6, .getfield 28, 105), (9, .if_icmp .lt (7), 0), (12, .sipush (-9999), 0), (15, .ireturn, 0), (16, .aload_n 0, 0), (17, .getfield 9, 100), (20, .iload_n 1, 0), (21, .caload, 0), (22, .ireturn, 0)]
def kc_Line_startAt : mv_K := [(0, .iload_n 1, 0), (1, .ifCond .lt (20), 0), (4, .iload_n 1, 0), (5, .aload_n 0, 0), (6, .getfield 32, 106), (9, .if_icmp .ge (12), 0), (12, .aload_n 0, 0), (13, .getfield 19, 102), (16, .iload_n 1, 0), (17, .iaload, 0), (18, .goto (7), 0), (21, .aload_n 0, 0), (22, .getfield 28, 105), (25, .ireturn, 0)]
def kc_Line_addNumber : mv_K := [(0, .iload_n 1, 0), (1, .invokestatic 46, 1068), (4, .iconst 1, 0), (5, .isub, 0), (6, .istore_n 2, 0), (7, .iload_n 2, 0), (8, .ifCond .lt (19), 0), (11, .aload_n 0, 0), (12, .iload_n 1, 0), (13, .iload_n 2, 0), (14, .invokestatic 49, 1069), (17, .invokevirtual 53, 6), (20, .pop, 0), (21, .iinc 2 (-1), 0), (24, .goto (-17), 0), (27, .return_, 0)]
def kc_State_init : mv_K := [(0, .aload_n 0, 0), (1, .invokespecial 3, 3), (4, .aload_n 0, 0), (5, .bipush (24), 0), (7, .anewarray 9, 14), (10, .putfield 11, 201), (13, .aload_n 0, 0), (14, .bipush (24), 0), (16, .newarray .int, 0), (18, .putfield 17, 202), (21, .aload_n 0, 0), (22, .bipush (12), 0), (24, .anewarray 9, 14), (27, .putfield 21, 203), (30, .aload_n 0, 0), (31, .bipush (12), 0), (33, .newarray .int, 0), (35, .putfield 24, 204), (38, .aload_n 0, 0), (39, .aload_n 1, 0), (40, .putfield 27, 200), (43, .iconst 0, 0), (44, .istore_n 2, 0), (45, .iload_n 2, 0), (46, .bipush (24), 0), (48, .if_icmp .ge (16), 0), (51, .aload_n 0, 0), (52, .getfield 11, 201), (55, .iload_n 2, 0), (56, .aload_n 1, 0), (57, .aastore, 0), (58, .iinc 2 (1), 0), (61, .goto (-16), 0), (64, .iconst 0, 0), (65, .istore_n 2, 0), (66, .iload_n 2, 0), (67, .bipush (12), 0), (69, .if_icmp .ge (16), 0), (72, .aload_n 0, 0), (73, .getfield 21, 203), (76, .iload_n 2, 0), (77, .aload_n 1, 0), (78, .aastore, 0), (79, .iinc 2 (1), 0), (82, .goto (-16), 0), (85, .return_, 0)]
def kc_State_copyFrom : mv_K := [(0, .aload_n 0, 0), (1, .aload_n 1, 0), (2, .getfield 31, 205), (5, .putfield 31, 205), (8, .aload_n 0, 0), (9, .aload_n 1, 0), (10, .getfield 35, 206), (13, .putfield 35, 206), (16, .iconst 0, 0), (17, .istore_n 2, 0), (18, .iload_n 2, 0), (19, .aload_n 0, 0), (20, .getfield 31, 205), (23, .if_icmp .ge (33), 0), (26, .aload_n 0, 0), (27, .getfield 11, 201), (30, .iload_n 2, 0), (31, .aload_n 1, 0), (32, .getfield 11, 201), (35, .iload_n 2, 0), (36, .aaload, 0), (37, .aastore, 0), (38, .aload_n 0, 0), (39, .getfield 17, 202), (42, .iload_n 2, 0), (43, .aload_n 1, 0), (44, .getfield 17, 202), (47, .iload_n 2, 0), (48, .iaload, 0), (49, .iastore, 0), (50, .iinc 2 (1), 0), (53, .goto (-35), 0), (56, .iconst 0, 0), (57, .istore_n 2, 0), (58, .iload_n 2, 0), (59, .aload_n 0, 0), (60, .getfield 35, 206), (63, .if_icmp .ge (33), 0), (66, .aload_n 0, 0), (67, .getfield 21, 203), (70, .iload_n 2, 0), (71, .aload_n 1, 0), (72, .getfield 21, 203), (75, .iload_n 2, 0), (76, .aaload, 0), (77, .aastore, 0), (78, .aload_n 0, 0), (79, .getfield 24, 204), (82, .iload_n 2, 0), (83, .aload_n 1, 0), (84, .getfield 24, 204), (87, .iload_n 2, 0), (88, .iaload, 0), (89, .iastore, 0), (90, .iinc 2 (1), 0), (93, .goto (-35), 0), (96, .return_, 0)]
def kc_State_sampleAt : mv_K := [(0, .iload_n 1, 0), (1, .ifCond .lt (20), 0), (4, .iload_n 1, 0), (5, .aload_n 0, 0), (6, .getfield 35, 206), (9, .if_icmp .ge (12), 0), (12, .aload_n 0, 0), (13, .getfield 21, 203), (16, .iload_n 1, 0), (17, .aaload, 0), (18, .goto (7), 0), (21, .aload_n 0, 0), (22, .getfield 27, 200), (25, .areturn, 0)]
def kc_State_kindIn : mv_K := [(0, .aload_n 0, 0), (1, .iload_n 1, 0), (2, .iload_n 2, 0), (3, .invokevirtual 38, 19), (6, .ifCond .eq (7), 0), (9, .iconst 4, 0), (10, .goto (12), 0), (13, .aload_n 0, 0), (14, .iload_n 1, 0), (15, .invokevirtual 42, 17), (18, .iload_n 2, 0), (19, .invokevirtual 46, 1008), (22, .ireturn, 0)]
def kc_State_isOpen : mv_K := [(0, .iload_n 1, 0), (1, .ifCond .lt (38), 0), (4, .iload_n 1, 0), (5, .aload_n 0, 0), (6, .getfield 35, 206), (9, .if_icmp .ge (30), 0), (12, .iload_n 2, 0), (13, .ifCond .lt (26), 0), (16, .iload_n 2, 0), (17, .bipush (12), 0), (19, .if_icmp .ge (20), 0), (22, .aload_n 0, 0), (23, .getfield 24, 204), (26, .iload_n 1, 0), (27, .iaload, 0), (28, .iload_n 2, 0), (29, .ishr, 0), (30, .iconst 1, 0), (31, .iand, 0), (32, .ifCond .eq (7), 0), (35, .iconst 1, 0), (36, .goto (4), 0), (39, .iconst 0, 0), (40, .ireturn, 0)]
def kc_State_openWord : mv_K := [(0, .iload_n 1, 0), (1, .ifCond .lt (33), 0), (4, .iload_n 1, 0), (5, .aload_n 0, 0), (6, .getfield 35, 206), (9, .if_icmp .ge (25), 0), (12, .iload_n 2, 0), (13, .ifCond .lt (21), 0), (16, .iload_n 2, 0), (17, .bipush (12), 0), (19, .if_icmp .ge (15), 0), (22, .aload_n 0, 0), (23, .getfield 24, 204), (26, .iload_n 1, 0), (27, .dup2, 0), (28, .iaload, 0), (29, .iconst 1, 0), (30, .iload_n 2, 0), (31, .ishl, 0), (32, .ior, 0), (33, .iastore, 0), (34, .return_, 0)]
def kc_State_moveLines : mv_K := [(0, .iconst 0, 0), (1, .istore_n 3, 0), (2, .iload_n 3, 0), (3, .aload_n 0, 0), (4, .getfield 31, 205), (7, .if_icmp .ge (26), 0), (10, .aload_n 0, 0), (11, .getfield 17, 202), (14, .iload_n 3, 0), (15, .iaload, 0), (16, .iload_n 1, 0), (17, .if_icmp .ne (10), 0), (20, .aload_n 0, 0), (21, .getfield 17, 202), (24, .iload_n 3, 0), (25, .iload_n 2, 0), (26, .iastore, 0), (27, .iinc 3 (1), 0), (30, .goto (-28), 0), (33, .aload_n 0, 0), (34, .iload_n 1, 0), (35, .invokevirtual 82, 22), (38, .return_, 0)]
def kc_State_dropTemplate_0 : mv_K := [(0, .iload_n 1, 0), (1, .ifCond .lt (11), 0), (4, .iload_n 1, 0), (5, .aload_n 0, 0), (6, .getfield 35, 206), (9, .if_icmp .lt (4), 0), (12, .return_, 0), (13, .iload_n 1, 0), (14, .iconst 1, 0), (15, .iadd, 0), (16, .istore_n 2, 0), (17, .iload_n 2, 0), (18, .aload_n 0, 0), (19, .getfield 35, 206), (22, .if_icmp .ge (37), 0), (25, .aload_n 0, 0), (26, .getfield 21, 203), (29, .iload_n 2, 0), (30, .iconst 1, 0), (31, .isub, 0), (32, .aload_n 0, 0), (33, .getfield 21, 203), (36, .iload_n 2, 0), (37, .aaload, 0), (38, .aastore, 0), (39, .aload_n 0, 0), (40, .getfield 24, 204), (43, .iload_n 2, 0), (44, .iconst 1, 0), (45, .isub, 0)]
def kc_State_dropTemplate_1 : mv_K := [(46, .aload_n 0, 0), (47, .getfield 24, 204), (50, .iload_n 2, 0), (51, .iaload, 0), (52, .iastore, 0), (53, .iinc 2 (1), 0), (56, .goto (-39), 0), (59, .aload_n 0, 0), (60, .dup, 0), (61, .getfield 35, 206), (64, .iconst 1, 0), (65, .isub, 0), (66, .putfield 35, 206), (69, .iconst 0, 0), (70, .istore_n 2, 0), (71, .iload_n 2, 0), (72, .aload_n 0, 0), (73, .getfield 31, 205), (76, .if_icmp .ge (29), 0), (79, .aload_n 0, 0), (80, .getfield 17, 202), (83, .iload_n 2, 0), (84, .iaload, 0), (85, .iload_n 1, 0), (86, .if_icmp .le (13), 0), (89, .aload_n 0, 0), (90, .getfield 17, 202), (93, .iload_n 2, 0), (94, .dup2, 0), (95, .iaload, 0)]
def kc_State_dropTemplate_2 : mv_K := [(96, .iconst 1, 0), (97, .isub, 0), (98, .iastore, 0), (99, .iinc 2 (1), 0), (102, .goto (-31), 0), (105, .return_, 0)]
def kc_State_dropTemplate : mv_K := kc_State_dropTemplate_0 ++ (kc_State_dropTemplate_1 ++ (kc_State_dropTemplate_2))
def kc_State_firstFit : mv_K := [(0, .iconst 0, 0), (1, .istore_n 2, 0), (2, .iload_n 2, 0), (3, .aload_n 0, 0), (4, .getfield 35, 206), (7, .if_icmp .ge (20), 0), (10, .aload_n 0, 0), (11, .aload_n 1, 0), (12, .iload_n 2, 0), (13, .invokevirtual 57, 24), (16, .ifCond .eq (5), 0), (19, .iload_n 2, 0), (20, .ireturn, 0), (21, .iinc 2 (1), 0), (24, .goto (-22), 0), (27, .sipush (-9999), 0), (30, .ireturn, 0)]
def kc_State_fits : mv_K := [(0, .aload_n 0, 0), (1, .iload_n 2, 0), (2, .invokevirtual 42, 17), (5, .astore_n 3, 0), (6, .aload_n 1, 0), (7, .getfield 50, 106), (10, .aload_n 3, 0), (11, .getfield 50, 106), (14, .if_icmp .eq (5), 0), (17, .iconst 0, 0), (18, .ireturn, 0), (19, .iconst 0, 0), (20, .istore 4, 0), (22, .iload 4, 0), (24, .aload_n 1, 0), (25, .getfield 50, 106), (28, .if_icmp .ge (60), 0), (31, .aload_n 1, 0), (32, .iload 4, 0), (34, .invokevirtual 46, 1008), (37, .aload_n 3, 0), (38, .iload 4, 0), (40, .invokevirtual 46, 1008), (43, .if_icmp .eq (5), 0), (46, .iconst 0, 0), (47, .ireturn, 0), (48, .aload_n 1, 0), (49, .iload 4, 0), (51, .invokevirtual 46, 1008), (54, .iconst 3, 0), (55, .if_icmp .eq (27), 0), (58, .aload_n 0, 0), (59, .iload_n 2, 0), (60, .iload 4, 0), (62, .invokevirtual 38, 19), (65, .ifCond .ne (17), 0), (68, .aload_n 1, 0), (69, .iload 4, 0), (71, .aload_n 3, 0), (72, .iload 4, 0), (74, .invokevirtual 53, 1009), (77, .ifCond .ne (5), 0), (80, .iconst 0, 0), (81, .ireturn, 0), (82, .iinc 4 (1), 0), (85, .goto (-63), 0), (88, .iconst 1, 0), (89, .ireturn, 0)]
def kc_State_lastOf : mv_K := [(0, .aload_n 0, 0), (1, .getfield 31, 205), (4, .iconst 1, 0), (5, .isub, 0), (6, .istore_n 3, 0), (7, .iload_n 3, 0), (8, .ifCond .lt (26), 0), (11, .iload_n 3, 0), (12, .iload_n 2, 0), (13, .if_icmp .ge (15), 0), (16, .aload_n 0, 0), (17, .getfield 17, 202), (20, .iload_n 3, 0), (21, .iaload, 0), (22, .iload_n 1, 0), (23, .if_icmp .ne (5), 0), (26, .iload_n 3, 0), (27, .ireturn, 0), (28, .iinc 3 (-1), 0), (31, .goto (-24), 0), (34, .sipush (-9999), 0), (37, .ireturn, 0)]
def kc_State_lineAt : mv_K := [(0, .iload_n 1, 0), (1, .ifCond .lt (20), 0), (4, .iload_n 1, 0), (5, .aload_n 0, 0), (6, .getfield 31, 205), (9, .if_icmp .ge (12), 0), (12, .aload_n 0, 0), (13, .getfield 11, 201), (16, .iload_n 1, 0), (17, .aaload, 0), (18, .goto (7), 0), (21, .aload_n 0, 0), (22, .getfield 27, 200), (25, .areturn, 0)]
def kc_State_templateAt : mv_K := [(0, .iload_n 1, 0), (1, .ifCond .lt (20), 0), (4, .iload_n 1, 0), (5, .aload_n 0, 0), (6, .getfield 31, 205), (9, .if_icmp .ge (12), 0), (12, .aload_n 0, 0), (13, .getfield 17, 202), (16, .iload_n 1, 0), (17, .iaload, 0), (18, .goto (6), 0), (21, .sipush (-9999), 0), (24, .ireturn, 0)]
def kc_State_firstOf : mv_K := [(0, .iconst 0, 0), (1, .istore_n 2, 0), (2, .iload_n 2, 0), (3, .aload_n 0, 0), (4, .getfield 31, 205), (7, .if_icmp .ge (21), 0), (10, .aload_n 0, 0), (11, .getfield 17, 202), (14, .iload_n 2, 0), (15, .iaload, 0), (16, .iload_n 1, 0), (17, .if_icmp .ne (5), 0), (20, .iload_n 2, 0), (21, .ireturn, 0), (22, .iinc 2 (1), 0), (25, .goto (-23), 0), (28, .sipush (-9999), 0), (31, .ireturn, 0)]
def kc_State_templateFor : mv_K := [(0, .aload_n 0, 0), (1, .getfield 31, 205), (4, .bipush (24), 0), (6, .if_icmp .lt (7), 0), (9, .sipush (-9999), 0), (12, .ireturn, 0), (13, .aload_n 0, 0), (14, .aload_n 1, 0), (15, .invokevirtual 61, 23), (18, .istore_n 2, 0), (19, .iload_n 2, 0), (20, .sipush (-9999), 0), (23, .if_icmp .ne (19), 0), (26, .aload_n 0, 0), (27, .getfield 35, 206), (30, .bipush (12), 0), (32, .if_icmp .ge (10), 0), (35, .aload_n 0, 0), (36, .getfield 35, 206), (39, .goto (4), 0), (42, .iload_n 2, 0), (43, .ireturn, 0)]
def kc_State_put : mv_K := [(0, .aload_n 0, 0), (1, .getfield 31, 205), (4, .bipush (24), 0), (6, .if_icmp .ge (21), 0), (9, .iload_n 2, 0), (10, .ifCond .lt (17), 0), (13, .iload_n 2, 0), (14, .aload_n 0, 0), (15, .getfield 35, 206), (18, .if_icmp .gt (9), 0), (21, .iload_n 2, 0), (22, .bipush (12), 0), (24, .if_icmp .lt (4), 0), (27, .return_, 0), (28, .iload_n 2, 0), (29, .aload_n 0, 0), (30, .getfield 35, 206), (33, .if_icmp .ne (27), 0), (36, .aload_n 0, 0), (37, .getfield 21, 203), (40, .iload_n 2, 0), (41, .aload_n 1, 0), (42, .aastore, 0), (43, .aload_n 0, 0), (44, .getfield 24, 204), (47, .iload_n 2, 0), (48, .iconst 0, 0), (49, .iastore, 0), (50, .aload_n 0, 0), (51, .dup, 0), (52, .getfield 35, 206), (55, .iconst 1, 0), (56, .iadd, 0), (57, .putfield 35, 206), (60, .aload_n 0, 0), (61, .getfield 11, 201), (64, .aload_n 0, 0), (65, .getfield 31, 205), (68, .aload_n 1, 0), (69, .aastore, 0), (70, .aload_n 0, 0), (71, .getfield 17, 202), (74, .aload_n 0, 0), (75, .getfield 31, 205), (78, .iload_n 2, 0), (79, .iastore, 0), (80, .aload_n 0, 0), (81, .dup, 0), (82, .getfield 31, 205), (85, .iconst 1, 0), (86, .iadd, 0), (87, .putfield 31, 205), (90, .return_, 0)]
def kc_State_dropLine : mv_K := [(0, .aload_n 0, 0), (1, .iload_n 1, 0), (2, .invokevirtual 75, 32), (5, .ifCond .ne (4), 0), (8, .return_, 0), (9, .aload_n 0, 0), (10, .getfield 17, 202), (13, .iload_n 1, 0), (14, .iaload, 0), (15, .istore_n 2, 0), (16, .iload_n 1, 0), (17, .iconst 1, 0), (18, .iadd, 0), (19, .istore_n 3, 0), (20, .iload_n 3, 0), (21, .aload_n 0, 0), (22, .getfield 31, 205), (25, .if_icmp .ge (37), 0), (28, .aload_n 0, 0), (29, .getfield 11, 201), (32, .iload_n 3, 0), (33, .iconst 1, 0), (34, .isub, 0), (35, .aload_n 0, 0), (36, .getfield 11, 201), (39, .iload_n 3, 0), (40, .aaload, 0), (41, .aastore, 0), (42, .aload_n 0, 0), (43, .getfield 17, 202), (46, .iload_n 3, 0), (47, .iconst 1, 0), (48, .isub, 0), (49, .aload_n 0, 0), (50, .getfield 17, 202), (53, .iload_n 3, 0), (54, .iaload, 0), (55, .iastore, 0), (56, .iinc 3 (1), 0), (59, .goto (-39), 0), (62, .aload_n 0, 0), (63, .dup, 0), (64, .getfield 31, 205), (67, .iconst 1, 0), (68, .isub, 0), (69, .putfield 31, 205), (72, .aload_n 0, 0), (73, .iload_n 2, 0), (74, .invokevirtual 79, 28), (77, .sipush (-9999), 0), (80, .if_icmp .ne (8), 0), (83, .aload_n 0, 0), (84, .iload_n 2, 0), (85, .invokevirtual 82, 22), (88, .return_, 0)]
def kc_State_hasLine : mv_K := [(0, .iload_n 1, 0), (1, .ifCond .lt (15), 0), (4, .iload_n 1, 0), (5, .aload_n 0, 0), (6, .getfield 31, 205), (9, .if_icmp .ge (7), 0), (12, .iconst 1, 0), (13, .goto (4), 0), (16, .iconst 0, 0), (17, .ireturn, 0)]
def kc_State_takeLinesOf : mv_K := [(0, .aload_n 0, 0), (1, .iconst 0, 0), (2, .putfield 31, 205), (5, .aload_n 0, 0), (6, .iconst 0, 0), (7, .putfield 35, 206), (10, .iconst 0, 0), (11, .istore_n 2, 0), (12, .iload_n 2, 0), (13, .aload_n 1, 0), (14, .getfield 31, 205), (17, .if_icmp .ge (39), 0), (20, .aload_n 1, 0), (21, .iload_n 2, 0), (22, .invokevirtual 65, 26), (25, .astore_n 3, 0), (26, .aload_n 0, 0), (27, .aload_n 3, 0), (28, .invokevirtual 68, 29), (31, .istore 4, 0), (33, .iload 4, 0), (35, .sipush (-9999), 0), (38, .if_icmp .ne (5), 0), (41, .iconst 0, 0), (42, .ireturn, 0), (43, .aload_n 0, 0), (44, .aload_n 3, 0), (45, .iload 4, 0), (47, .invokevirtual 71, 30), (50, .iinc 2 (1), 0), (53, .goto (-41), 0), (56, .iconst 1, 0), (57, .ireturn, 0)]
def kc_Hist_init : mv_K := [(0, .aload_n 0, 0), (1, .invokespecial 3, 3), (4, .aload_n 0, 0), (5, .bipush (14), 0), (7, .anewarray 9, 15), (10, .putfield 11, 300), (13, .iconst 0, 0), (14, .istore_n 2, 0), (15, .iload_n 2, 0), (16, .bipush (14), 0), (18, .if_icmp .ge (23), 0), (21, .aload_n 0, 0), (22, .getfield 11, 300), (25, .iload_n 2, 0), (26, .new 9, 2), (29, .dup, 0), (30, .aload_n 1, 0), (31, .invokespecial 17, 1015), (34, .aastore, 0), (35, .iinc 2 (1), 0), (38, .goto (-23), 0), (41, .return_, 0)]
def kc_Hist_remember : mv_K := [(0, .aload_n 0, 0), (1, .getfield 20, 302), (4, .bipush (14), 0), (6, .if_icmp .ne (22), 0), (9, .aload_n 0, 0), (10, .aload_n 0, 0), (11, .iconst 1, 0), (12, .invokevirtual 24, 36), (15, .putfield 28, 301), (18, .aload_n 0, 0), (19, .dup, 0), (20, .getfield 20, 302), (23, .iconst 1, 0), (24, .isub, 0), (25, .putfield 20, 302), (28, .aload_n 0, 0), (29, .getfield 11, 300), (32, .aload_n 0, 0), (33, .aload_n 0, 0), (34, .getfield 20, 302), (37, .invokevirtual 24, 36), (40, .aaload, 0), (41, .aload_n 1, 0), (42, .invokevirtual 31, 1016), (45, .aload_n 0, 0), (46, .dup, 0), (47, .getfield 20, 302), (50, .iconst 1, 0), (51, .iadd, 0), (52, .putfield 20, 302), (55, .return_, 0)]
def kc_Hist_placeBehindOldest : mv_K := [(0, .aload_n 0, 0), (1, .getfield 28, 301), (4, .iload_n 1, 0), (5, .iadd, 0), (6, .bipush (14), 0), (8, .invokestatic 35, 0), (11, .ireturn, 0)]
def kc_Hist_takeBack : mv_K := [(0, .aload_n 0, 0), (1, .getfield 20, 302), (4, .ifCond .le (30), 0), (7, .aload_n 0, 0), (8, .dup, 0), (9, .getfield 20, 302), (12, .iconst 1, 0), (13, .isub, 0), (14, .putfield 20, 302), (17, .aload_n 1, 0), (18, .aload_n 0, 0), (19, .getfield 11, 300), (22, .aload_n 0, 0), (23, .aload_n 0, 0), (24, .getfield 20, 302), (27, .invokevirtual 24, 36), (30, .aaload, 0), (31, .invokevirtual 31, 1016), (34, .return_, 0)]
def kc_Hist_forgetAll : mv_K := [(0, .aload_n 0, 0), (1, .iconst 0, 0), (2, .putfield 20, 302), (5, .return_, 0)]
def kc_LT_init_0 : mv_K := [(0, .aload_n 0, 0), (1, .invokespecial 1, 3), (4, .aload_n 0, 0), (5, .bipush (50), 0), (7, .newarray .char, 0), (9, .putfield 9, 0), (12, .new 13, 1), (15, .dup, 0), (16, .invokespecial 15, 1004), (19, .astore_n 1, 0), (20, .aload_n 0, 0), (21, .iconst 0, 0), (22, .putfield 16, 1), (25, .aload_n 0, 0), (26, .new 13, 1), (29, .dup, 0), (30, .invokespecial 15, 1004), (33, .putfield 20, 2), (36, .aload_n 0, 0), (37, .bipush (25), 0), (39, .anewarray 13, 14), (42, .putfield 24, 3), (45, .iconst 0, 0), (46, .istore_n 2, 0), (47, .iload_n 2, 0), (48, .aload_n 0, 0), (49, .getfield 24, 3), (52, .arraylength, 0), (53, .if_icmp .ge (22), 0), (56, .aload_n 0, 0)]
def kc_LT_init_1 : mv_K := [(57, .getfield 24, 3), (60, .iload_n 2, 0), (61, .new 13, 1), (64, .dup, 0), (65, .invokespecial 15, 1004), (68, .aastore, 0), (69, .iinc 2 (1), 0), (72, .goto (-25), 0), (75, .aload_n 0, 0), (76, .new 28, 2), (79, .dup, 0), (80, .aload_n 1, 0), (81, .invokespecial 30, 1015), (84, .putfield 33, 4), (87, .aload_n 0, 0), (88, .new 28, 2), (91, .dup, 0), (92, .aload_n 1, 0), (93, .invokespecial 30, 1015), (96, .putfield 37, 5), (99, .aload_n 0, 0), (100, .new 28, 2), (103, .dup, 0), (104, .aload_n 1, 0), (105, .invokespecial 30, 1015), (108, .putfield 40, 6), (111, .aload_n 0, 0), (112, .new 43, 3), (115, .dup, 0), (116, .aload_n 1, 0)]
def kc_LT_init_2 : mv_K := [(117, .invokespecial 45, 1034), (120, .putfield 46, 7), (123, .aload_n 0, 0), (124, .iconst 2, 0), (125, .anewarray 28, 15), (128, .putfield 50, 8), (131, .iconst 0, 0), (132, .istore_n 2, 0), (133, .iload_n 2, 0), (134, .aload_n 0, 0), (135, .getfield 50, 8), (138, .arraylength, 0), (139, .if_icmp .ge (23), 0), (142, .aload_n 0, 0), (143, .getfield 50, 8), (146, .iload_n 2, 0), (147, .new 28, 2), (150, .dup, 0), (151, .aload_n 1, 0), (152, .invokespecial 30, 1015), (155, .aastore, 0), (156, .iinc 2 (1), 0), (159, .goto (-26), 0), (162, .aload_n 0, 0), (163, .iconst 2, 0), (164, .newarray .boolean, 0), (166, .putfield 54, 9), (169, .return_, 0)]
def kc_LT_init : mv_K := kc_LT_init_0 ++ (kc_LT_init_1 ++ (kc_LT_init_2))
def kc_LT_clearText : mv_K := [(0, .aload_n 0, 0), (1, .getfield 16, 1), (4, .istore_n 1, 0), (5, .aload_n 0, 0), (6, .iconst 0, 0), (7, .putfield 16, 1), (10, .iload_n 1, 0), (11, .ireturn, 0)]
def kc_LT_errorPosition : mv_K := [(0, .aload_n 0, 0), (1, .aload_n 0, 0), (2, .getfield 20, 2), (5, .invokevirtual 70, 42), (8, .ireturn, 0)]
def kc_LT_readText : mv_K := [(0, .aload_n 1, 0), (1, .invokevirtual 289, 1005), (4, .iconst 0, 0), (5, .istore_n 2, 0), (6, .iload_n 2, 0), (7, .aload_n 0, 0), (8, .getfield 16, 1), (11, .if_icmp .ge (33), 0), (14, .iload_n 2, 0), (15, .aload_n 0, 0), (16, .getfield 9, 0), (19, .arraylength, 0), (20, .if_icmp .ge (24), 0), (23, .aload_n 1, 0), (24, .aload_n 0, 0), (25, .getfield 9, 0), (28, .iload_n 2, 0), (29, .caload, 0), (30, .invokevirtual 292, 1006), (33, .ifCond .ne (5), 0), (36, .iload_n 2, 0), (37, .ireturn, 0), (38, .iinc 2 (1), 0), (41, .goto (-35), 0), (44, .aload_n 0, 0), (45, .getfield 16, 1), (48, .ifCond .ne (7), 0), (51, .iconst 0, 0), (52, .goto (6), 0), (55, .sipush (-9999), 0), (58, .ireturn, 0)]
def kc_LT_kindOfCharacter : mv_K := [(0, .iload_n 0, 0), (1, .bipush (97), 0), (3, .if_icmp .lt (11), 0), (6, .iload_n 0, 0), (7, .bipush (122), 0), (9, .if_icmp .gt (5), 0), (12, .iconst 0, 0), (13, .ireturn, 0), (14, .iload_n 0, 0), (15, .bipush (48), 0), (17, .if_icmp .lt (11), 0), (20, .iload_n 0, 0), (21, .bipush (57), 0), (23, .if_icmp .gt (5), 0), (26, .iconst 3, 0), (27, .ireturn, 0), (28, .iload_n 0, 0), (29, .bipush (32), 0), (31, .if_icmp .ne (5), 0), (34, .iconst 1, 0), (35, .ireturn, 0), (36, .iload_n 0, 0), (37, .bipush (58), 0), (39, .if_icmp .eq (9), 0), (42, .iload_n 0, 0), (43, .bipush (61), 0), (45, .if_icmp .ne (7), 0), (48, .iconst 2, 0), (49, .goto (4), 0), (52, .iconst (-1), 0), (53, .ireturn, 0)]
def kc_LT_learn : mv_K := [(0, .aload_n 0, 0), (1, .getfield 46, 7), (4, .aload_n 0, 0), (5, .getfield 33, 4), (8, .invokevirtual 186, 1035), (11, .aload_n 0, 0), (12, .getfield 33, 4), (15, .invokestatic 196, 1098), (18, .ireturn, 0)]
def kc_LT_isSlot : mv_K := [(0, .iload_n 0, 0), (1, .iconst 3, 0), (2, .if_icmp .eq (8), 0), (5, .iload_n 0, 0), (6, .iconst 4, 0), (7, .if_icmp .ne (7), 0), (10, .iconst 1, 0), (11, .goto (4), 0), (14, .iconst 0, 0), (15, .ireturn, 0)]
def kc_LT_learnAll : mv_K := [(0, .aload_n 0, 0), (1, .getfield 46, 7), (4, .aload_n 0, 0), (5, .getfield 33, 4), (8, .invokevirtual 186, 1035), (11, .aload_n 0, 0), (12, .getfield 33, 4), (15, .invokestatic 201, 1100), (18, .aload_n 0, 0), (19, .getfield 33, 4), (22, .getfield 77, 206), (25, .ireturn, 0)]
def kc_LT_which : mv_K := [(0, .aload_n 0, 0), (1, .aload_n 0, 0), (2, .getfield 20, 2), (5, .invokevirtual 70, 42), (8, .sipush (-9999), 0), (11, .if_icmp .ne (17), 0), (14, .aload_n 0, 0), (15, .getfield 33, 4), (18, .aload_n 0, 0), (19, .getfield 20, 2), (22, .invokevirtual 227, 1023), (25, .goto (6), 0), (28, .sipush (-9999), 0), (31, .ireturn, 0)]
def kc_LT_wouldCost : mv_K := [(0, .aload_n 0, 0), (1, .aload_n 0, 0), (2, .getfield 20, 2), (5, .invokevirtual 70, 42), (8, .sipush (-9999), 0), (11, .if_icmp .eq (7), 0), (14, .sipush (-9999), 0), (17, .ireturn, 0), (18, .aload_n 0, 0), (19, .getfield 33, 4), (22, .aload_n 0, 0), (23, .getfield 20, 2), (26, .aload_n 0, 0), (27, .getfield 33, 4), (30, .aload_n 0, 0), (31, .getfield 20, 2), (34, .invokevirtual 227, 1023), (37, .aload_n 0, 0), (38, .getfield 33, 4), (41, .getfield 74, 205), (44, .invokestatic 118, 1078), (47, .ireturn, 0)]
def kc_LT_saves : mv_K := [(0, .aload_n 0, 0), (1, .getfield 37, 5), (4, .aload_n 0, 0), (5, .getfield 33, 4), (8, .invokevirtual 216, 1016), (11, .aload_n 0, 0), (12, .getfield 37, 5), (15, .invokestatic 196, 1098), (18, .sipush (-9999), 0), (21, .if_icmp .ne (7), 0), (24, .sipush (-9999), 0), (27, .ireturn, 0), (28, .aload_n 0, 0), (29, .getfield 33, 4), (32, .invokestatic 230, 1080), (35, .aload_n 0, 0), (36, .getfield 37, 5), (39, .invokestatic 230, 1080), (42, .isub, 0), (43, .ireturn, 0)]
def kc_LT_append : mv_K := [(0, .iload_n 1, 0), (1, .ifCond .lt (10), 0), (4, .iload_n 1, 0), (5, .sipush (255), 0), (8, .if_icmp .le (13), 0), (11, .new 58, (-1)), (21, .aload_n 0, 0), (22, .getfield 16, 1), (25, .aload_n 0, 0), (26, .getfield 9, 0), (29, .arraylength, 0), (30, .if_icmp .lt (13), 0), (33, .new 65, (-2)), (43, .aload_n 0, 0), (44, .getfield 9, 0), (47, .aload_n 0, 0), (48, .getfield 16, 1), (51, .iload_n 1, 0), (52, .i2c, 0), (53, .castore, 0), (54, .aload_n 0, 0), (55, .dup, 0), (56, .getfield 16, 1), (59, .iconst 1, 0), (60, .iadd, 0), (61, .putfield 16, 1), (64, .aload_n 0, 0), (65, .getfield 16, 1), (68, .ireturn, 0)]
def kc_LT_about : mv_K := [(0, .iload_n 1, 0), (1, .tableswitch (113) (0) (7) #[47, 55, 63, 71, 79, 87, 96, 105], 47), (48, .aload_n 0, 0), (49, .getfield 33, 4), (52, .getfield 74, 205), (55, .ireturn, 0), (56, .aload_n 0, 0), (57, .getfield 33, 4), (60, .getfield 77, 206), (63, .ireturn, 0), (64, .aload_n 0, 0), (65, .getfield 33, 4), (68, .invokestatic 80, 1085), (71, .ireturn, 0), (72, .aload_n 0, 0), (73, .getfield 33, 4), (76, .invokestatic 86, 1081), (79, .ireturn, 0), (80, .aload_n 0, 0), (81, .getfield 33, 4), (84, .invokestatic 91, 1082), (87, .ireturn, 0), (88, .aload_n 0, 0), (89, .getfield 33, 4), (92, .iconst 3, 0), (93, .invokestatic 94, 1086), (96, .ireturn, 0), (97, .aload_n 0, 0), (98, .getfield 33, 4), (101, .iconst 4, 0), (102, .invokestatic 94, 1086), (105, .ireturn, 0), (106, .aload_n 0, 0), (107, .getfield 33, 4), (110, .invokestatic 98, 1088), (113, .ireturn, 0), (114, .new 58, (-1))]
def kc_LT_line : mv_K := [(0, .aload_n 0, 0), (1, .iload_n 1, 0), (2, .invokevirtual 103, 53), (5, .iload_n 2, 0), (6, .tableswitch (93) (0) (3) #[30, 39, 51, 76], 30), (36, .aload_n 0, 0), (37, .getfield 33, 4), (40, .iload_n 1, 0), (41, .invokevirtual 107, 1027), (44, .ireturn, 0), (45, .aload_n 0, 0), (46, .getfield 33, 4), (49, .iload_n 1, 0), (50, .invokevirtual 111, 1026), (53, .getfield 115, 105), (56, .ireturn, 0), (57, .aload_n 0, 0), (58, .getfield 33, 4), (61, .aload_n 0, 0), (62, .getfield 33, 4), (65, .iload_n 1, 0), (66, .invokevirtual 111, 1026), (69, .aload_n 0, 0), (70, .getfield 33, 4), (73, .iload_n 1, 0), (74, .invokevirtual 107, 1027), (77, .iload_n 1, 0), (78, .invokestatic 118, 1078), (81, .ireturn, 0), (82, .aload_n 0, 0), (83, .getfield 33, 4), (86, .aload_n 0, 0), (87, .getfield 33, 4), (90, .iload_n 1, 0), (91, .invokevirtual 107, 1027), (94, .iload_n 1, 0), (95, .invokestatic 122, 1090), (98, .ireturn, 0), (99, .new 58, (-1))]
def kc_LT_checkLine : mv_K := [(0, .iload_n 1, 0), (1, .ifCond .lt (14), 0), (4, .iload_n 1, 0), (5, .aload_n 0, 0), (6, .getfield 33, 4), (9, .getfield 74, 205), (12, .if_icmp .lt (14), 0), (15, .new 278, (-3)), (26, .return_, 0)]
def kc_LT_charAt : mv_K := [(0, .aload_n 0, 0), (1, .iload_n 1, 0), (2, .invokevirtual 103, 53), (5, .iload_n 2, 0), (6, .ifCond .ge (13), 0), (9, .new 58, (-1)), (19, .aload_n 0, 0), (20, .getfield 33, 4), (23, .iload_n 1, 0), (24, .invokevirtual 111, 1026), (27, .iload_n 2, 0), (28, .invokevirtual 130, 1012), (31, .ireturn, 0)]
def kc_LT_value : mv_K := [(0, .aload_n 0, 0), (1, .iload_n 1, 0), (2, .invokevirtual 103, 53), (5, .aload_n 0, 0), (6, .getfield 33, 4), (9, .iload_n 1, 0), (10, .invokevirtual 111, 1026), (13, .iload_n 2, 0), (14, .invokestatic 133, 56), (17, .aload_n 0, 0), (18, .getfield 33, 4), (21, .iload_n 1, 0), (22, .invokevirtual 111, 1026), (25, .iload_n 2, 0), (26, .invokevirtual 137, 1011), (29, .ireturn, 0)]
def kc_LT_checkPiece : mv_K := [(0, .iload_n 1, 0), (1, .ifCond .lt (11), 0), (4, .iload_n 1, 0), (5, .aload_n 0, 0), (6, .getfield 146, 106), (9, .if_icmp .lt (14), 0), (12, .new 278, (-3)), (23, .return_, 0)]
def kc_LT_template : mv_K := [(0, .aload_n 0, 0), (1, .iload_n 1, 0), (2, .invokevirtual 140, 58), (5, .iload_n 2, 0), (6, .tableswitch (104) (0) (5) #[38, 50, 66, 76, 86, 95], 38), (44, .aload_n 0, 0), (45, .getfield 33, 4), (48, .iload_n 1, 0), (49, .invokevirtual 143, 1017), (52, .getfield 146, 106), (55, .ireturn, 0), (56, .aload_n 0, 0), (57, .getfield 33, 4), (60, .iload_n 1, 0), (61, .aload_n 0, 0), (62, .getfield 33, 4), (65, .getfield 74, 205), (68, .invokestatic 122, 1090), (71, .ireturn, 0), (72, .aload_n 0, 0), (73, .getfield 33, 4), (76, .iload_n 1, 0), (77, .iconst 3, 0), (78, .invokestatic 149, 1087), (81, .ireturn, 0), (82, .aload_n 0, 0), (83, .getfield 33, 4), (86, .iload_n 1, 0), (87, .iconst 4, 0), (88, .invokestatic 149, 1087), (91, .ireturn, 0), (92, .aload_n 0, 0), (93, .getfield 33, 4), (96, .iload_n 1, 0), (97, .invokestatic 152, 1083), (100, .ireturn, 0), (101, .aload_n 0, 0), (102, .getfield 33, 4), (105, .iload_n 1, 0), (106, .invokevirtual 155, 1028), (109, .ireturn, 0), (110, .new 58, (-1))]
def kc_LT_checkTemplate : mv_K := [(0, .iload_n 1, 0), (1, .ifCond .lt (14), 0), (4, .iload_n 1, 0), (5, .aload_n 0, 0), (6, .getfield 33, 4), (9, .getfield 77, 206), (12, .if_icmp .lt (14), 0), (15, .new 278, (-3)), (26, .return_, 0)]
def kc_LT_piece : mv_K := [(0, .aload_n 0, 0), (1, .iload_n 1, 0), (2, .invokevirtual 140, 58), (5, .aload_n 0, 0), (6, .getfield 33, 4), (9, .iload_n 1, 0), (10, .invokevirtual 143, 1017), (13, .iload_n 2, 0), (14, .invokestatic 133, 56), (17, .aload_n 0, 0), (18, .getfield 33, 4), (21, .iload_n 1, 0), (22, .iload_n 2, 0), (23, .invokevirtual 160, 1018), (26, .istore 4, 0), (28, .iload_n 3, 0), (29, .tableswitch (65) (0) (2) #[27, 30, 55], 27), (56, .iload 4, 0), (58, .ireturn, 0), (59, .iload 4, 0), (61, .invokestatic 164, 45), (64, .ifCond .eq (7), 0), (67, .iconst 0, 0), (68, .goto (15), 0), (71, .aload_n 0, 0), (72, .getfield 33, 4), (75, .iload_n 1, 0), (76, .invokevirtual 143, 1017), (79, .iload_n 2, 0), (80, .invokevirtual 168, 1010), (83, .ireturn, 0), (84, .aload_n 0, 0), (85, .getfield 33, 4), (88, .iload_n 1, 0), (89, .iload_n 2, 0), (90, .invokestatic 171, 1091), (93, .ireturn, 0), (94, .new 58, (-1))]
def kc_LT_rises : mv_K := [(0, .aload_n 0, 0), (1, .iload_n 1, 0), (2, .invokevirtual 140, 58), (5, .aload_n 0, 0), (6, .getfield 33, 4), (9, .iload_n 1, 0), (10, .invokevirtual 143, 1017), (13, .iload_n 2, 0), (14, .invokestatic 133, 56), (17, .aload_n 0, 0), (18, .getfield 33, 4), (21, .iload_n 1, 0), (22, .iload_n 2, 0), (23, .invokevirtual 160, 1018), (26, .iconst 3, 0), (27, .if_icmp .ne (15), 0), (30, .aload_n 0, 0), (31, .getfield 33, 4), (34, .iload_n 1, 0), (35, .iload_n 2, 0), (36, .invokestatic 176, 1092), (39, .goto (6), 0), (42, .sipush (-9999), 0), (45, .ireturn, 0)]
def kc_LT_take : mv_K := [(0, .aload_n 0, 0), (1, .aload_n 0, 0), (2, .getfield 20, 2), (5, .invokevirtual 70, 42), (8, .sipush (-9999), 0), (11, .if_icmp .eq (13), 0), (14, .new 65, (-2)), (24, .aload_n 0, 0), (25, .getfield 33, 4), (28, .aload_n 0, 0), (29, .getfield 20, 2), (32, .invokevirtual 181, 1029), (35, .istore_n 1, 0), (36, .iload_n 1, 0), (37, .sipush (-9999), 0), (40, .if_icmp .ne (13), 0), (43, .new 65, (-2)), (53, .new 13, 1), (56, .dup, 0), (57, .invokespecial 15, 1004), (60, .astore_n 2, 0), (61, .aload_n 0, 0), (62, .aload_n 2, 0), (63, .invokevirtual 70, 42), (66, .pop, 0), (67, .aload_n 0, 0), (68, .getfield 46, 7), (71, .aload_n 0, 0), (72, .getfield 33, 4), (75, .invokevirtual 186, 1035), (78, .aload_n 0, 0), (79, .getfield 33, 4), (82, .aload_n 2, 0), (83, .iload_n 1, 0), (84, .invokevirtual 190, 1030), (87, .iload_n 1, 0), (88, .ireturn, 0)]
def kc_LT_again : mv_K := [(0, .aload_n 0, 0), (1, .iload_n 1, 0), (2, .invokevirtual 103, 53), (5, .aload_n 0, 0), (6, .getfield 33, 4), (9, .iload_n 1, 0), (10, .invokevirtual 111, 1026), (13, .astore_n 2, 0), (14, .aload_n 0, 0), (15, .getfield 33, 4), (18, .aload_n 2, 0), (19, .invokevirtual 181, 1029), (22, .istore_n 3, 0), (23, .iload_n 3, 0), (24, .sipush (-9999), 0), (27, .if_icmp .ne (13), 0), (30, .new 65, (-2)), (40, .aload_n 0, 0), (41, .getfield 46, 7), (44, .aload_n 0, 0), (45, .getfield 33, 4), (48, .invokevirtual 186, 1035), (51, .aload_n 0, 0), (52, .getfield 33, 4), (55, .aload_n 2, 0), (56, .iload_n 3, 0), (57, .invokevirtual 190, 1030), (60, .aload_n 0, 0), (61, .getfield 33, 4), (64, .getfield 74, 205), (67, .iconst 1, 0), (68, .isub, 0), (69, .ireturn, 0)]
def kc_LT_remove : mv_K := [(0, .aload_n 0, 0), (1, .iload_n 1, 0), (2, .invokevirtual 103, 53), (5, .aload_n 0, 0), (6, .getfield 46, 7), (9, .aload_n 0, 0), (10, .getfield 33, 4), (13, .invokevirtual 186, 1035), (16, .aload_n 0, 0), (17, .getfield 33, 4), (20, .iload_n 1, 0), (21, .invokevirtual 193, 1031), (24, .aload_n 0, 0), (25, .getfield 33, 4), (28, .getfield 77, 206), (31, .ireturn, 0)]
def kc_LT_open : mv_K := [(0, .aload_n 0, 0), (1, .iload_n 1, 0), (2, .invokevirtual 140, 58), (5, .aload_n 0, 0), (6, .getfield 33, 4), (9, .iload_n 1, 0), (10, .invokevirtual 143, 1017), (13, .iload_n 2, 0), (14, .invokestatic 133, 56), (17, .aload_n 0, 0), (18, .getfield 33, 4), (21, .iload_n 1, 0), (22, .iload_n 2, 0), (23, .invokevirtual 160, 1018), (26, .ifCond .eq (13), 0), (29, .new 65, (-2)), (39, .aload_n 0, 0), (40, .getfield 46, 7), (43, .aload_n 0, 0), (44, .getfield 33, 4), (47, .invokevirtual 186, 1035), (50, .aload_n 0, 0), (51, .getfield 33, 4), (54, .iload_n 1, 0), (55, .iload_n 2, 0), (56, .invokevirtual 206, 1020), (59, .aload_n 0, 0), (60, .getfield 33, 4), (63, .iload_n 1, 0), (64, .invokestatic 152, 1083), (67, .ireturn, 0)]
def kc_LT_forget : mv_K := [(0, .aload_n 0, 0), (1, .getfield 37, 5), (4, .aload_n 0, 0), (5, .getfield 33, 4), (8, .invokevirtual 210, 1033), (11, .ifCond .ne (13), 0), (14, .new 65, (-2)), (24, .aload_n 0, 0), (25, .getfield 46, 7), (28, .aload_n 0, 0), (29, .getfield 33, 4), (32, .invokevirtual 186, 1035), (35, .aload_n 0, 0), (36, .getfield 33, 4), (39, .aload_n 0, 0), (40, .getfield 37, 5), (43, .invokevirtual 216, 1016), (46, .aload_n 0, 0), (47, .getfield 33, 4), (50, .getfield 77, 206), (53, .ireturn, 0)]
def kc_LT_undo : mv_K := [(0, .aload_n 0, 0), (1, .getfield 46, 7), (4, .getfield 219, 302), (7, .ifCond .ne (13), 0), (10, .new 65, (-2)), (20, .aload_n 0, 0), (21, .getfield 46, 7), (24, .aload_n 0, 0), (25, .getfield 33, 4), (28, .invokevirtual 224, 1037), (31, .aload_n 0, 0), (32, .getfield 46, 7), (35, .getfield 219, 302), (38, .ireturn, 0)]
def kc_LT_next : mv_K := [(0, .aload_n 0, 0), (1, .iload_n 1, 0), (2, .invokevirtual 140, 58), (5, .iload_n 2, 0), (6, .ifCond .ge (13), 0), (9, .new 58, (-1)), (19, .aload_n 0, 0), (20, .getfield 33, 4), (23, .iload_n 1, 0), (24, .iload_n 2, 0), (25, .invokestatic 233, 1096), (28, .ireturn, 0)]
def kc_LT_countDigits : mv_K := [(0, .iconst 1, 0), (1, .istore_n 1, 0), (2, .iload_n 0, 0), (3, .bipush (10), 0), (5, .idiv, 0), (6, .istore_n 2, 0), (7, .iload_n 2, 0), (8, .ifCond .le (20), 0), (11, .iload_n 1, 0), (12, .bipush (10), 0), (14, .if_icmp .ge (14), 0), (17, .iinc 1 (1), 0), (20, .iload_n 2, 0), (21, .bipush (10), 0), (23, .idiv, 0), (24, .istore_n 2, 0), (25, .goto (-18), 0), (28, .iload_n 1, 0), (29, .ireturn, 0)]
def kc_LT_digitCharacter : mv_K := [(0, .iload_n 0, 0), (1, .istore_n 2, 0), (2, .iconst 0, 0), (3, .istore_n 3, 0), (4, .iload_n 3, 0), (5, .iload_n 1, 0), (6, .if_icmp .ge (18), 0), (9, .iload_n 2, 0), (10, .ifCond .le (14), 0), (13, .iload_n 2, 0), (14, .bipush (10), 0), (16, .idiv, 0), (17, .istore_n 2, 0), (18, .iinc 3 (1), 0), (21, .goto (-17), 0), (24, .bipush (48), 0), (26, .iload_n 2, 0), (27, .bipush (10), 0), (29, .irem, 0), (30, .iadd, 0), (31, .ireturn, 0)]
def kc_LT_withValue : mv_K := [(0, .iload_n 1, 0), (1, .ifCond .lt (9), 0), (4, .iload_n 1, 0), (5, .ldc 237, 999999), (7, .if_icmp .le (13), 0), (10, .new 58, (-1)), (20, .aload_n 0, 0), (21, .getfield 33, 4), (24, .iload_n 1, 0), (25, .invokestatic 240, 1093), (28, .ireturn, 0)]
def kc_LT_runScript : mv_K := [(0, .iload_n 1, 0), (1, .iconst 1, 0), (2, .if_icmp .lt (8), 0), (5, .iload_n 1, 0), (6, .iconst 4, 0), (7, .if_icmp .le (13), 0), (10, .new 58, (-1)), (20, .lload_n 2, 0), (21, .lconst 0, 0), (22, .lcmp, 0), (23, .ifCond .lt (13), 0), (26, .lload_n 2, 0), (27, .iload_n 1, 0), (28, .invokestatic 245, 1101), (31, .lconst 0, 0), (32, .lcmp, 0), (33, .ifCond .eq (13), 0), (36, .new 58, (-1)), (46, .aload_n 0, 0), (47, .getfield 37, 5), (50, .aload_n 0, 0), (51, .getfield 33, 4), (54, .invokevirtual 216, 1016), (57, .iconst 0, 0), (58, .istore 4, 0), (60, .iload 4, 0), (62, .iload_n 1, 0), (63, .if_icmp .ge (45), 0), (66, .lload_n 2, 0), (67, .iload_n 1, 0), (68, .iconst 1, 0), (69, .isub, 0), (70, .iload 4, 0), (72, .isub, 0), (73, .invokestatic 245, 1101), (76, .ldc2_w 253, 10000), (79, .lrem, 0), (80, .l2i, 0), (81, .istore 5, 0), (83, .iload 5, 0), (85, .aload_n 0, 0), (86, .getfield 37, 5), (89, .aload_n 0, 0), (90, .getfield 40, 6), (93, .invokestatic 255, 1102), (96, .ifCond .ne (6), 0), (99, .iload 4, 0), (101, .ireturn, 0), (102, .iinc 4 (1), 0), (105, .goto (-45), 0), (108, .sipush (-9999), 0), (111, .ireturn, 0)]
def kc_LT_simulate : mv_K := [(0, .iload_n 3, 0), (1, .iconst 1, 0), (2, .if_icmp .lt (9), 0), (5, .iload_n 3, 0), (6, .bipush (30), 0), (8, .if_icmp .le (14), 0), (11, .new 58, (-1)), (22, .aload_n 0, 0), (23, .getfield 37, 5), (26, .aload_n 0, 0), (27, .getfield 33, 4), (30, .invokevirtual 216, 1016), (33, .aload_n 0, 0), (34, .lload_n 1, 0), (35, .iload_n 3, 0), (36, .invokevirtual 261, 73), (39, .sipush (1000), 0), (42, .aload_n 0, 0), (43, .getfield 37, 5), (46, .getfield 77, 206), (49, .imul, 0), (50, .aload_n 0, 0), (51, .getfield 37, 5), (54, .invokestatic 230, 1080), (57, .sipush (999), 0), (60, .invokestatic 265, 2), (63, .iadd, 0), (64, .ireturn, 0)]
def kc_LT_simulateLines_0 : mv_K := [(0, .lload_n 1, 0), (1, .lstore 4, 0), (3, .bipush (7), 0), (5, .istore 6, 0), (7, .iconst 0, 0), (8, .istore 7, 0), (10, .iconst 0, 0), (11, .istore 8, 0), (13, .iload 8, 0), (15, .iload_n 3, 0), (16, .if_icmp .ge (109), 0), (19, .iload 7, 0), (21, .aload_n 0, 0), (22, .getfield 24, 3), (25, .arraylength, 0), (26, .if_icmp .ge (99), 0), (29, .lload 4, 0), (31, .ldc2_w 295, 6364136223846793005), (34, .lmul, 0), (35, .ldc2_w 297, 1442695040888963407), (38, .ladd, 0), (39, .lstore 4, 0), (41, .lload 4, 0), (43, .bipush (33), 0), (45, .lushr, 0), (46, .l2i, 0), (47, .istore 9, 0), (49, .iload 6, 0), (51, .iload 9, 0), (53, .iconst 3, 0)]
def kc_LT_simulateLines_1 : mv_K := [(54, .irem, 0), (55, .iadd, 0), (56, .istore 6, 0), (58, .aload_n 0, 0), (59, .getfield 24, 3), (62, .iload 7, 0), (64, .aaload, 0), (65, .astore 10, 0), (67, .aload 10, 0), (69, .iload 9, 0), (71, .iload 6, 0), (73, .invokestatic 299, 74), (76, .aload_n 0, 0), (77, .getfield 37, 5), (80, .aload 10, 0), (82, .invokevirtual 181, 1029), (85, .istore 11, 0), (87, .iload 11, 0), (89, .sipush (-9999), 0), (92, .if_icmp .ne (13), 0), (95, .aload_n 0, 0), (96, .getfield 37, 5), (99, .invokestatic 201, 1100), (102, .goto (17), 0), (105, .aload_n 0, 0), (106, .getfield 37, 5), (109, .aload 10, 0), (111, .iload 11, 0), (113, .invokevirtual 190, 1030), (116, .iinc 7 (1), 0)]
def kc_LT_simulateLines_2 : mv_K := [(119, .iinc 8 (1), 0), (122, .goto (-109), 0), (125, .return_, 0)]
def kc_LT_simulateLines : mv_K := kc_LT_simulateLines_0 ++ (kc_LT_simulateLines_1 ++ (kc_LT_simulateLines_2))
def kc_LT_writeSimulated_0 : mv_K := [(0, .aload_n 0, 0), (1, .invokevirtual 289, 1005), (4, .bipush (97), 0), (6, .iload_n 1, 0), (7, .iconst 4, 0), (8, .idiv, 0), (9, .iconst 3, 0), (10, .irem, 0), (11, .iadd, 0), (12, .istore_n 3, 0), (13, .aload_n 0, 0), (14, .iload_n 3, 0), (15, .invokevirtual 292, 1006), (18, .pop, 0), (19, .aload_n 0, 0), (20, .iload_n 3, 0), (21, .invokevirtual 292, 1006), (24, .pop, 0), (25, .aload_n 0, 0), (26, .bipush (32), 0), (28, .invokevirtual 292, 1006), (31, .pop, 0), (32, .aload_n 0, 0), (33, .iload_n 2, 0), (34, .invokevirtual 303, 1014), (37, .aload_n 0, 0), (38, .iload_n 1, 0), (39, .bipush (16), 0), (41, .idiv, 0), (42, .iconst 4, 0)]
def kc_LT_writeSimulated_1 : mv_K := [(43, .irem, 0), (44, .ifCond .ne (8), 0), (47, .bipush (61), 0), (49, .goto (5), 0), (52, .bipush (58), 0), (54, .invokevirtual 292, 1006), (57, .pop, 0), (58, .aload_n 0, 0), (59, .bipush (109), 0), (61, .iload_n 1, 0), (62, .bipush (64), 0), (64, .idiv, 0), (65, .iconst 5, 0), (66, .irem, 0), (67, .iadd, 0), (68, .invokevirtual 292, 1006), (71, .pop, 0), (72, .iload_n 1, 0), (73, .ldc_w 306, 32768), (76, .idiv, 0), (77, .iconst 2, 0), (78, .irem, 0), (79, .ifCond .ne (22), 0), (82, .aload_n 0, 0), (83, .bipush (32), 0), (85, .invokevirtual 292, 1006), (88, .pop, 0), (89, .aload_n 0, 0), (90, .iload_n 1, 0), (91, .sipush (512), 0)]
def kc_LT_writeSimulated_2 : mv_K := [(94, .idiv, 0), (95, .bipush (50), 0), (97, .irem, 0), (98, .invokevirtual 303, 1014), (101, .return_, 0)]
def kc_LT_writeSimulated : mv_K := kc_LT_writeSimulated_0 ++ (kc_LT_writeSimulated_1 ++ (kc_LT_writeSimulated_2))
def kc_LT_save : mv_K := [(0, .iload_n 1, 0), (1, .invokestatic 270, 76), (4, .aload_n 0, 0), (5, .getfield 50, 8), (8, .iload_n 1, 0), (9, .aaload, 0), (10, .aload_n 0, 0), (11, .getfield 33, 4), (14, .invokevirtual 216, 1016), (17, .aload_n 0, 0), (18, .getfield 54, 9), (21, .iload_n 1, 0), (22, .iconst 1, 0), (23, .bastore, 0), (24, .aload_n 0, 0), (25, .getfield 33, 4), (28, .getfield 74, 205), (31, .ireturn, 0)]
def kc_LT_checkSlot : mv_K := [(0, .iload_n 0, 0), (1, .ifCond .lt (8), 0), (4, .iload_n 0, 0), (5, .iconst 2, 0), (6, .if_icmp .lt (14), 0), (9, .new 278, (-3)), (20, .return_, 0)]
def kc_LT_restore : mv_K := [(0, .iload_n 1, 0), (1, .invokestatic 270, 76), (4, .aload_n 0, 0), (5, .getfield 54, 9), (8, .iload_n 1, 0), (9, .baload, 0), (10, .ifCond .ne (14), 0), (13, .new 65, (-2)), (24, .aload_n 0, 0), (25, .getfield 33, 4), (28, .aload_n 0, 0), (29, .getfield 50, 8), (32, .iload_n 1, 0), (33, .aaload, 0), (34, .invokevirtual 216, 1016), (37, .aload_n 0, 0), (38, .getfield 46, 7), (41, .invokevirtual 275, 1038), (44, .aload_n 0, 0), (45, .getfield 33, 4), (48, .getfield 74, 205), (51, .ireturn, 0)]
def kc_Costs_ofLineAt : mv_K := [(0, .aload_n 0, 0), (1, .iload_n 2, 0), (2, .iload_n 3, 0), (3, .invokevirtual 36, 1025), (6, .istore 4, 0), (8, .iconst 1, 0), (9, .istore 5, 0), (11, .iconst 0, 0), (12, .istore 6, 0), (14, .iload 6, 0), (16, .aload_n 1, 0), (17, .getfield 40, 106), (20, .if_icmp .ge (73), 0), (23, .aload_n 1, 0), (24, .iload 6, 0), (26, .invokevirtual 45, 1008), (29, .iconst 3, 0), (30, .if_icmp .ne (20), 0), (33, .iload 5, 0), (35, .aload_n 0, 0), (36, .aload_n 1, 0), (37, .iload 6, 0), (39, .iload 4, 0), (41, .invokestatic 48, 79), (44, .iadd, 0), (45, .istore 5, 0), (47, .goto (40), 0), (50, .aload_n 0, 0), (51, .iload_n 2, 0), (52, .iload 6, 0), (54, .invokevirtual 51, 1019), (57, .ifCond .eq (30), 0), (60, .iload 5, 0), (62, .aload_n 0, 0), (63, .aload_n 1, 0), (64, .iload_n 2, 0), (65, .iload 6, 0), (67, .iload_n 3, 0), (68, .invokestatic 55, 1084), (71, .ifCond .eq (7), 0), (74, .iconst 1, 0), (75, .goto (9), 0), (78, .aload_n 1, 0), (79, .iload 6, 0), (81, .invokevirtual 61, 1010), (84, .iadd, 0), (85, .istore 5, 0), (87, .iinc 6 (1), 0), (90, .goto (-76), 0), (93, .iload 5, 0), (95, .ireturn, 0)]
def kc_Costs_ofNumber : mv_K := [(0, .aload_n 1, 0), (1, .iload_n 2, 0), (2, .invokevirtual 61, 1010), (5, .istore 4, 0), (7, .iload_n 3, 0), (8, .sipush (-9999), 0), (11, .if_icmp .eq (17), 0), (14, .iload 4, 0), (16, .aload_n 0, 0), (17, .iload_n 3, 0), (18, .invokevirtual 24, 1026), (21, .iload_n 2, 0), (22, .invokevirtual 61, 1010), (25, .if_icmp .eq (6), 0), (28, .iload 4, 0), (30, .ireturn, 0), (31, .aload_n 1, 0), (32, .iload_n 2, 0), (33, .invokevirtual 64, 1011), (36, .aload_n 0, 0), (37, .iload_n 3, 0), (38, .iload_n 2, 0), (39, .invokestatic 67, 1095), (42, .if_icmp .ne (7), 0), (45, .iconst 1, 0), (46, .goto (5), 0), (49, .iload 4, 0), (51, .ireturn, 0)]
def kc_Costs_ofAll : mv_K := [(0, .aload_n 0, 0), (1, .invokestatic 9, 81), (4, .aload_n 0, 0), (5, .invokestatic 15, 82), (8, .iadd, 0), (9, .ireturn, 0)]
def kc_Costs_ofLines : mv_K := [(0, .iconst 0, 0), (1, .istore_n 1, 0), (2, .iconst 0, 0), (3, .istore_n 2, 0), (4, .iload_n 2, 0), (5, .aload_n 0, 0), (6, .getfield 18, 205), (9, .if_icmp .ge (27), 0), (12, .iload_n 1, 0), (13, .aload_n 0, 0), (14, .aload_n 0, 0), (15, .iload_n 2, 0), (16, .invokevirtual 24, 1026), (19, .aload_n 0, 0), (20, .iload_n 2, 0), (21, .invokevirtual 28, 1027), (24, .iload_n 2, 0), (25, .invokestatic 32, 78), (28, .iadd, 0), (29, .istore_n 1, 0), (30, .iinc 2 (1), 0), (33, .goto (-29), 0), (36, .iload_n 1, 0), (37, .ireturn, 0)]
def kc_Costs_ofTemplates : mv_K := [(0, .iconst 0, 0), (1, .istore_n 1, 0), (2, .iconst 0, 0), (3, .istore_n 2, 0), (4, .iload_n 2, 0), (5, .aload_n 0, 0), (6, .getfield 73, 206), (9, .if_icmp .ge (17), 0), (12, .iload_n 1, 0), (13, .aload_n 0, 0), (14, .iload_n 2, 0), (15, .invokestatic 76, 83), (18, .iadd, 0), (19, .istore_n 1, 0), (20, .iinc 2 (1), 0), (23, .goto (-19), 0), (26, .iload_n 1, 0), (27, .ireturn, 0)]
def kc_Costs_ofTemplate : mv_K := [(0, .aload_n 0, 0), (1, .iload_n 1, 0), (2, .invokevirtual 80, 1017), (5, .astore_n 2, 0), (6, .iconst 0, 0), (7, .istore_n 3, 0), (8, .iconst 0, 0), (9, .istore 4, 0), (11, .iload 4, 0), (13, .aload_n 2, 0), (14, .getfield 40, 106), (17, .if_icmp .ge (35), 0), (20, .iload_n 3, 0), (21, .aload_n 0, 0), (22, .iload_n 1, 0), (23, .iload 4, 0), (25, .invokevirtual 83, 1018), (28, .invokestatic 86, 1045), (31, .ifCond .eq (7), 0), (34, .iconst 1, 0), (35, .goto (9), 0), (38, .aload_n 2, 0), (39, .iload 4, 0), (41, .invokevirtual 61, 1010), (44, .iadd, 0), (45, .istore_n 3, 0), (46, .iinc 4 (1), 0), (49, .goto (-38), 0), (52, .iload_n 3, 0), (53, .ireturn, 0)]
def kc_Counts_isSeenBefore : mv_K := [(0, .aload_n 1, 0), (1, .iload_n 3, 0), (2, .invokevirtual 54, 1008), (5, .iconst 3, 0), (6, .if_icmp .ne (7), 0), (9, .iconst 1, 0), (10, .goto (4), 0), (13, .iconst 0, 0), (14, .istore 5, 0), (16, .iconst 0, 0), (17, .istore 6, 0), (19, .iload 6, 0), (21, .iload 4, 0), (23, .if_icmp .ge (74), 0), (26, .iload 6, 0), (28, .aload_n 0, 0), (29, .getfield 9, 205), (32, .if_icmp .ge (65), 0), (35, .aload_n 0, 0), (36, .iload 6, 0), (38, .invokevirtual 15, 1026), (41, .astore 7, 0), (43, .aload_n 0, 0), (44, .iload 6, 0), (46, .invokevirtual 43, 1027), (49, .iload_n 2, 0), (50, .if_icmp .eq (6), 0), (53, .goto (38), 0), (56, .iload 5, 0), (58, .ifCond .eq (20), 0), (61, .aload_n 1, 0), (62, .iload_n 3, 0), (63, .invokevirtual 51, 1011), (66, .aload 7, 0), (68, .iload_n 3, 0), (69, .invokevirtual 51, 1011), (72, .if_icmp .ne (19), 0), (75, .goto (14), 0), (78, .aload_n 1, 0), (79, .iload_n 3, 0), (80, .aload 7, 0), (82, .iload_n 3, 0), (83, .invokevirtual 61, 1009), (86, .ifCond .eq (5), 0), (89, .iconst 1, 0), (90, .ireturn, 0), (91, .iinc 6 (1), 0), (94, .goto (-75), 0), (97, .iconst 0, 0), (98, .ireturn, 0)]
def kc_Counts_charactersOfLines : mv_K := [(0, .iconst 0, 0), (1, .istore_n 1, 0), (2, .iconst 0, 0), (3, .istore_n 2, 0), (4, .iload_n 2, 0), (5, .aload_n 0, 0), (6, .getfield 9, 205), (9, .if_icmp .ge (20), 0), (12, .iload_n 1, 0), (13, .aload_n 0, 0), (14, .iload_n 2, 0), (15, .invokevirtual 15, 1026), (18, .getfield 19, 105), (21, .iadd, 0), (22, .istore_n 1, 0), (23, .iinc 2 (1), 0), (26, .goto (-22), 0), (29, .iload_n 1, 0), (30, .ireturn, 0)]
def kc_Counts_slotsOfTemplates : mv_K := [(0, .iconst 0, 0), (1, .istore_n 2, 0), (2, .iconst 0, 0), (3, .istore_n 3, 0), (4, .iload_n 3, 0), (5, .aload_n 0, 0), (6, .getfield 24, 206), (9, .if_icmp .ge (18), 0), (12, .iload_n 2, 0), (13, .aload_n 0, 0), (14, .iload_n 3, 0), (15, .iload_n 1, 0), (16, .invokestatic 27, 87), (19, .iadd, 0), (20, .istore_n 2, 0), (21, .iinc 3 (1), 0), (24, .goto (-20), 0), (27, .iload_n 2, 0), (28, .ireturn, 0)]
def kc_Counts_slotsOfTemplate : mv_K := [(0, .iconst 0, 0), (1, .istore_n 3, 0), (2, .iconst 0, 0), (3, .istore 4, 0), (5, .iload 4, 0), (7, .aload_n 0, 0), (8, .iload_n 1, 0), (9, .invokevirtual 33, 1017), (12, .getfield 36, 106), (15, .if_icmp .ge (23), 0), (18, .aload_n 0, 0), (19, .iload_n 1, 0), (20, .iload 4, 0), (22, .invokevirtual 39, 1018), (25, .iload_n 2, 0), (26, .if_icmp .ne (6), 0), (29, .iinc 3 (1), 0), (32, .iinc 4 (1), 0), (35, .goto (-30), 0), (38, .iload_n 3, 0), (39, .ireturn, 0)]
def kc_Counts_differentWords : mv_K := [(0, .iconst 0, 0), (1, .istore_n 1, 0), (2, .iconst 0, 0), (3, .istore_n 2, 0), (4, .iload_n 2, 0), (5, .aload_n 0, 0), (6, .getfield 9, 205), (9, .if_icmp .ge (55), 0), (12, .aload_n 0, 0), (13, .iload_n 2, 0), (14, .invokevirtual 15, 1026), (17, .astore_n 3, 0), (18, .iconst 0, 0), (19, .istore 4, 0), (21, .iload 4, 0), (23, .aload_n 3, 0), (24, .getfield 36, 106), (27, .if_icmp .ge (31), 0), (30, .aload_n 3, 0), (31, .iload 4, 0), (33, .invokevirtual 54, 1008), (36, .ifCond .ne (16), 0), (39, .aload_n 0, 0), (40, .iload_n 2, 0), (41, .iload 4, 0), (43, .invokestatic 57, 89), (46, .ifCond .ne (6), 0), (49, .iinc 1 (1), 0), (52, .iinc 4 (1), 0), (55, .goto (-34), 0), (58, .iinc 2 (1), 0), (61, .goto (-57), 0), (64, .iload_n 1, 0), (65, .ireturn, 0)]
def kc_Counts_isWordBefore : mv_K := [(0, .aload_n 0, 0), (1, .iload_n 1, 0), (2, .invokevirtual 15, 1026), (5, .astore_n 3, 0), (6, .iconst 0, 0), (7, .istore 4, 0), (9, .iload 4, 0), (11, .iload_n 1, 0), (12, .if_icmp .gt (64), 0), (15, .aload_n 0, 0), (16, .iload 4, 0), (18, .invokevirtual 15, 1026), (21, .astore 5, 0), (23, .iload 4, 0), (25, .iload_n 1, 0), (26, .if_icmp .ne (7), 0), (29, .iload_n 2, 0), (30, .goto (8), 0), (33, .aload 5, 0), (35, .getfield 36, 106), (38, .istore 6, 0), (40, .iconst 0, 0), (41, .istore 7, 0), (43, .iload 7, 0), (45, .iload 6, 0), (47, .if_icmp .ge (23), 0), (50, .aload_n 3, 0), (51, .iload_n 2, 0), (52, .aload 5, 0), (54, .iload 7, 0), (56, .invokevirtual 61, 1009), (59, .ifCond .eq (5), 0), (62, .iconst 1, 0), (63, .ireturn, 0), (64, .iinc 7 (1), 0), (67, .goto (-24), 0), (70, .iinc 4 (1), 0), (73, .goto (-64), 0), (76, .iconst 0, 0), (77, .ireturn, 0)]
def kc_Counts_linesBefore : mv_K := [(0, .iconst 0, 0), (1, .istore_n 3, 0), (2, .iconst 0, 0), (3, .istore 4, 0), (5, .iload 4, 0), (7, .iload_n 2, 0), (8, .if_icmp .ge (31), 0), (11, .iload 4, 0), (13, .aload_n 0, 0), (14, .getfield 9, 205), (17, .if_icmp .ge (22), 0), (20, .aload_n 0, 0), (21, .iload 4, 0), (23, .invokevirtual 43, 1027), (26, .iload_n 1, 0), (27, .if_icmp .ne (6), 0), (30, .iinc 3 (1), 0), (33, .iinc 4 (1), 0), (36, .goto (-31), 0), (39, .iload_n 3, 0), (40, .ireturn, 0)]
def kc_Counts_differentThings : mv_K := [(0, .aload_n 0, 0), (1, .iload_n 1, 0), (2, .iload_n 2, 0), (3, .invokevirtual 39, 1018), (6, .invokestatic 65, 1045), (9, .ifCond .ne (5), 0), (12, .iconst 1, 0), (13, .ireturn, 0), (14, .iconst 0, 0), (15, .istore_n 3, 0), (16, .iconst 0, 0), (17, .istore 4, 0), (19, .iload 4, 0), (21, .aload_n 0, 0), (22, .getfield 9, 205), (25, .if_icmp .ge (39), 0), (28, .aload_n 0, 0), (29, .iload 4, 0), (31, .invokevirtual 43, 1027), (34, .iload_n 1, 0), (35, .if_icmp .ne (23), 0), (38, .aload_n 0, 0), (39, .aload_n 0, 0), (40, .iload 4, 0), (42, .invokevirtual 15, 1026), (45, .iload_n 1, 0), (46, .iload_n 2, 0), (47, .iload 4, 0), (49, .invokestatic 69, 84), (52, .ifCond .ne (6), 0), (55, .iinc 3 (1), 0), (58, .iinc 4 (1), 0), (61, .goto (-42), 0), (64, .iload_n 3, 0), (65, .ireturn, 0)]
def kc_Counts_risingLines : mv_K := [(0, .iconst 0, 0), (1, .istore_n 3, 0), (2, .iconst 0, 0), (3, .istore 4, 0), (5, .iconst 0, 0), (6, .istore 5, 0), (8, .aload_n 0, 0), (9, .getfield 9, 205), (12, .iconst 1, 0), (13, .isub, 0), (14, .istore 6, 0), (16, .iload 6, 0), (18, .ifCond .lt (70), 0), (21, .aload_n 0, 0), (22, .iload 6, 0), (24, .invokevirtual 43, 1027), (27, .iload_n 1, 0), (28, .if_icmp .eq (6), 0), (31, .goto (51), 0), (34, .aload_n 0, 0), (35, .iload 6, 0), (37, .invokevirtual 15, 1026), (40, .iload_n 2, 0), (41, .invokevirtual 51, 1011), (44, .istore 7, 0), (46, .iload_n 3, 0), (47, .iconst 1, 0), (48, .if_icmp .ne (10), 0), (51, .iload 5, 0), (53, .iload 7, 0), (55, .isub, 0), (56, .istore 4, 0), (58, .iload_n 3, 0), (59, .iconst 1, 0), (60, .if_icmp .le (15), 0), (63, .iload 5, 0), (65, .iload 7, 0), (67, .isub, 0), (68, .iload 4, 0), (70, .if_icmp .eq (5), 0), (73, .iload_n 3, 0), (74, .ireturn, 0), (75, .iload 7, 0), (77, .istore 5, 0), (79, .iinc 3 (1), 0), (82, .iinc 6 (-1), 0), (85, .goto (-69), 0), (88, .iload_n 3, 0), (89, .ireturn, 0)]
def kc_Counts_linesWithValue : mv_K := [(0, .iconst 0, 0), (1, .istore_n 2, 0), (2, .iconst 0, 0), (3, .istore_n 3, 0), (4, .iload_n 3, 0), (5, .aload_n 0, 0), (6, .getfield 9, 205), (9, .if_icmp .ge (24), 0), (12, .aload_n 0, 0), (13, .iload_n 3, 0), (14, .invokevirtual 15, 1026), (17, .iload_n 1, 0), (18, .invokestatic 47, 94), (21, .ifCond .eq (6), 0), (24, .iinc 2 (1), 0), (27, .iinc 3 (1), 0), (30, .goto (-26), 0), (33, .iload_n 2, 0), (34, .ireturn, 0)]
def kc_Counts_hasValue : mv_K := [(0, .iconst 0, 0), (1, .istore_n 2, 0), (2, .iload_n 2, 0), (3, .aload_n 0, 0), (4, .getfield 36, 106), (7, .if_icmp .ge (20), 0), (10, .aload_n 0, 0), (11, .iload_n 2, 0), (12, .invokevirtual 51, 1011), (15, .iload_n 1, 0), (16, .if_icmp .ne (5), 0), (19, .iconst 1, 0), (20, .ireturn, 0), (21, .iinc 2 (1), 0), (24, .goto (-22), 0), (27, .iconst 0, 0), (28, .ireturn, 0)]
def kc_Exp_valueBehind : mv_K := [(0, .aload_n 0, 0), (1, .iload_n 1, 0), (2, .invokevirtual 9, 1026), (5, .iload_n 2, 0), (6, .invokevirtual 15, 1011), (9, .istore_n 3, 0), (10, .aload_n 0, 0), (11, .aload_n 0, 0), (12, .iload_n 1, 0), (13, .invokevirtual 21, 1027), (16, .iload_n 1, 0), (17, .invokevirtual 24, 1025), (20, .istore 4, 0), (22, .iload 4, 0), (24, .sipush (-9999), 0), (27, .if_icmp .ne (7), 0), (30, .iload_n 3, 0), (31, .goto (17), 0), (34, .iload_n 3, 0), (35, .iload_n 3, 0), (36, .aload_n 0, 0), (37, .iload 4, 0), (39, .invokevirtual 9, 1026), (42, .iload_n 2, 0), (43, .invokevirtual 15, 1011), (46, .isub, 0), (47, .iadd, 0), (48, .ireturn, 0)]
def kc_Exp_characterAt_0 : mv_K := [(0, .aload_n 0, 0), (1, .iload_n 1, 0), (2, .aload_n 0, 0), (3, .getfield 28, 205), (6, .invokevirtual 24, 1025), (9, .istore_n 3, 0), (10, .aload_n 0, 0), (11, .iload_n 3, 0), (12, .invokevirtual 9, 1026), (15, .astore 4, 0), (17, .iload_n 2, 0), (18, .istore 5, 0), (20, .iconst 0, 0), (21, .istore 6, 0), (23, .iload 6, 0), (25, .aload 4, 0), (27, .getfield 32, 106), (30, .if_icmp .ge (128), 0), (33, .aload 4, 0), (35, .iload 6, 0), (37, .invokevirtual 35, 1008), (40, .iconst 3, 0), (41, .if_icmp .ne (7), 0), (44, .iconst 1, 0), (45, .goto (4), 0), (48, .iconst 0, 0), (49, .istore 7, 0), (51, .iload 7, 0), (53, .ifCond .eq (17), 0), (56, .iconst 0, 0)]
def kc_Exp_characterAt_1 : mv_K := [(57, .aload_n 0, 0), (58, .iload_n 3, 0), (59, .iload 6, 0), (61, .invokestatic 38, 95), (64, .invokestatic 44, 1), (67, .goto (4), 0), (70, .iconst 0, 0), (71, .istore 8, 0), (73, .iload 7, 0), (75, .ifCond .eq (18), 0), (78, .iload 8, 0), (80, .aload 4, 0), (82, .iload 6, 0), (84, .invokevirtual 49, 1010), (87, .invokestatic 52, 97), (90, .goto (10), 0), (93, .aload 4, 0), (95, .iload 6, 0), (97, .invokevirtual 49, 1010), (100, .istore 9, 0), (102, .iload 5, 0), (104, .iload 9, 0), (106, .if_icmp .ge (39), 0), (109, .iload 7, 0), (111, .ifCond .eq (18), 0), (114, .iload 8, 0), (116, .iload 9, 0), (118, .iconst 1, 0), (119, .isub, 0), (120, .iload 5, 0)]
def kc_Exp_characterAt_2 : mv_K := [(122, .isub, 0), (123, .invokestatic 55, 1069), (126, .goto (18), 0), (129, .aload 4, 0), (131, .aload 4, 0), (133, .iload 6, 0), (135, .invokevirtual 58, 1013), (138, .iload 5, 0), (140, .iadd, 0), (141, .invokevirtual 61, 1012), (144, .ireturn, 0), (145, .iload 5, 0), (147, .iload 9, 0), (149, .isub, 0), (150, .istore 5, 0), (152, .iinc 6 (1), 0), (155, .goto (-132), 0), (158, .sipush (-9999), 0), (161, .ireturn, 0)]
def kc_Exp_characterAt : mv_K := kc_Exp_characterAt_0 ++ (kc_Exp_characterAt_1 ++ (kc_Exp_characterAt_2))
def kc_Exp_digitsFor : mv_K := [(0, .bipush (6), 0), (2, .iload_n 1, 0), (3, .iload_n 0, 0), (4, .invokestatic 64, 1068), (7, .invokestatic 44, 1), (10, .invokestatic 67, 2), (13, .ireturn, 0)]
def kc_Learn_learnFirstPair : mv_K := [(0, .iconst 0, 0), (1, .istore_n 1, 0), (2, .iload_n 1, 0), (3, .aload_n 0, 0), (4, .getfield 9, 206), (7, .if_icmp .ge (60), 0), (10, .iload_n 1, 0), (11, .iconst 1, 0), (12, .iadd, 0), (13, .istore_n 2, 0), (14, .iload_n 2, 0), (15, .aload_n 0, 0), (16, .getfield 9, 206), (19, .if_icmp .ge (42), 0), (22, .aload_n 0, 0), (23, .iload_n 1, 0), (24, .iload_n 2, 0), (25, .invokestatic 15, 99), (28, .istore_n 3, 0), (29, .iload_n 3, 0), (30, .sipush (-9999), 0), (33, .if_icmp .eq (22), 0), (36, .aload_n 0, 0), (37, .iload_n 1, 0), (38, .iload_n 3, 0), (39, .invokevirtual 21, 1020), (42, .aload_n 0, 0), (43, .iload_n 2, 0), (44, .iload_n 1, 0), (45, .invokevirtual 25, 1021), (48, .bipush (100), 0), (50, .iload_n 1, 0), (51, .imul, 0), (52, .iload_n 2, 0), (53, .iadd, 0), (54, .ireturn, 0), (55, .iinc 2 (1), 0), (58, .goto (-44), 0), (61, .iinc 1 (1), 0), (64, .goto (-62), 0), (67, .sipush (-9999), 0), (70, .ireturn, 0)]
def kc_Learn_onlyDifference_0 : mv_K := [(0, .aload_n 0, 0), (1, .iload_n 1, 0), (2, .invokevirtual 32, 1017), (5, .astore_n 3, 0), (6, .aload_n 0, 0), (7, .iload_n 2, 0), (8, .invokevirtual 32, 1017), (11, .astore 4, 0), (13, .aload_n 3, 0), (14, .getfield 36, 106), (17, .aload 4, 0), (19, .getfield 36, 106), (22, .if_icmp .eq (7), 0), (25, .sipush (-9999), 0), (28, .ireturn, 0), (29, .iconst (-1), 0), (30, .istore 5, 0), (32, .iconst 0, 0), (33, .istore 6, 0), (35, .iload 6, 0), (37, .aload_n 3, 0), (38, .getfield 36, 106), (41, .if_icmp .ge (87), 0), (44, .aload_n 0, 0), (45, .iload_n 1, 0), (46, .iload 6, 0), (48, .invokevirtual 41, 1018), (51, .istore 7, 0), (53, .iload 7, 0), (55, .aload_n 0, 0)]
def kc_Learn_onlyDifference_1 : mv_K := [(56, .iload_n 2, 0), (57, .iload 6, 0), (59, .invokevirtual 41, 1018), (62, .if_icmp .ne (27), 0), (65, .iload 7, 0), (67, .invokestatic 45, 1045), (70, .ifCond .ne (52), 0), (73, .aload_n 3, 0), (74, .iload 6, 0), (76, .aload 4, 0), (78, .iload 6, 0), (80, .invokevirtual 49, 1009), (83, .ifCond .eq (6), 0), (86, .goto (36), 0), (89, .iload 5, 0), (91, .iconst (-1), 0), (92, .if_icmp .ne (22), 0), (95, .aload_n 3, 0), (96, .iload 6, 0), (98, .invokevirtual 53, 1008), (101, .ifCond .ne (13), 0), (104, .aload 4, 0), (106, .iload 6, 0), (108, .invokevirtual 53, 1008), (111, .ifCond .eq (7), 0), (114, .sipush (-9999), 0), (117, .ireturn, 0), (118, .iload 6, 0), (120, .istore 5, 0), (122, .iinc 6 (1), 0)]
def kc_Learn_onlyDifference_2 : mv_K := [(125, .goto (-90), 0), (128, .iload 5, 0), (130, .ireturn, 0)]
def kc_Learn_onlyDifference : mv_K := kc_Learn_onlyDifference_0 ++ (kc_Learn_onlyDifference_1 ++ (kc_Learn_onlyDifference_2))
def kc_Learn_learnAllPairs : mv_K := [(0, .iconst 0, 0), (1, .istore_n 1, 0), (2, .iload_n 1, 0), (3, .bipush (12), 0), (5, .if_icmp .ge (19), 0), (8, .aload_n 0, 0), (9, .invokestatic 28, 98), (12, .sipush (-9999), 0), (15, .if_icmp .eq (9), 0), (18, .iinc 1 (1), 0), (21, .goto (-19), 0), (24, .return_, 0)]
def kc_Scr_withoutLowestGroups : mv_K := [(0, .lload_n 0, 0), (1, .lstore_n 3, 0), (2, .iconst 0, 0), (3, .istore 5, 0), (5, .iload 5, 0), (7, .iload_n 2, 0), (8, .if_icmp .ge (15), 0), (11, .lload_n 3, 0), (12, .ldc2_w 9, 10000), (15, .ldiv, 0), (16, .lstore_n 3, 0), (17, .iinc 5 (1), 0), (20, .goto (-15), 0), (23, .lload_n 3, 0), (24, .lreturn, 0)]
def kc_Scr_succeeds_0 : mv_K := [(0, .iload_n 0, 0), (1, .sipush (1000), 0), (4, .irem, 0), (5, .istore_n 3, 0), (6, .iload_n 3, 0), (7, .bipush (10), 0), (9, .idiv, 0), (10, .istore 4, 0), (12, .iload_n 3, 0), (13, .bipush (10), 0), (15, .irem, 0), (16, .istore 5, 0), (18, .iload_n 0, 0), (19, .sipush (1000), 0), (22, .idiv, 0), (23, .tableswitch (236) (1) (9) #[49, 69, 89, 109, 127, 155, 176, 196, 210], 49), (72, .iload 5, 0), (74, .ifCond .ne (16), 0), (77, .aload_n 1, 0), (78, .iload 4, 0), (80, .invokestatic 11, 103), (83, .ifCond .eq (7), 0), (86, .iconst 1, 0), (87, .goto (4), 0), (90, .iconst 0, 0), (91, .ireturn, 0), (92, .iload 5, 0), (94, .ifCond .ne (16), 0), (97, .aload_n 1, 0), (98, .iload 4, 0)]
def kc_Scr_succeeds_1 : mv_K := [(100, .invokestatic 17, 104), (103, .ifCond .eq (7), 0), (106, .iconst 1, 0), (107, .goto (4), 0), (110, .iconst 0, 0), (111, .ireturn, 0), (112, .iload_n 3, 0), (113, .ifCond .ne (17), 0), (116, .aload_n 1, 0), (117, .invokestatic 20, 1098), (120, .sipush (-9999), 0), (123, .if_icmp .eq (7), 0), (126, .iconst 1, 0), (127, .goto (4), 0), (130, .iconst 0, 0), (131, .ireturn, 0), (132, .iload_n 3, 0), (133, .ifCond .ne (7), 0), (136, .aload_n 1, 0), (137, .invokestatic 26, 1100), (140, .iload_n 3, 0), (141, .ifCond .ne (7), 0), (144, .iconst 1, 0), (145, .goto (4), 0), (148, .iconst 0, 0), (149, .ireturn, 0), (150, .iload 5, 0), (152, .ifCond .ne (24), 0), (155, .aload_n 1, 0), (156, .iload 4, 0)]
def kc_Scr_succeeds_2 : mv_K := [(158, .bipush (10), 0), (160, .idiv, 0), (161, .iload 4, 0), (163, .bipush (10), 0), (165, .irem, 0), (166, .invokestatic 30, 105), (169, .ifCond .eq (7), 0), (172, .iconst 1, 0), (173, .goto (4), 0), (176, .iconst 0, 0), (177, .ireturn, 0), (178, .iload_n 3, 0), (179, .ifCond .ne (11), 0), (182, .aload_n 2, 0), (183, .aload_n 1, 0), (184, .invokevirtual 34, 1033), (187, .ifCond .ne (5), 0), (190, .iconst 0, 0), (191, .ireturn, 0), (192, .aload_n 1, 0), (193, .aload_n 2, 0), (194, .invokevirtual 40, 1016), (197, .iconst 1, 0), (198, .ireturn, 0), (199, .iload_n 3, 0), (200, .bipush (100), 0), (202, .if_icmp .ge (15), 0), (205, .aload_n 1, 0), (206, .getfield 43, 206), (209, .iload_n 3, 0)]
def kc_Scr_succeeds_3 : mv_K := [(210, .if_icmp .gt (7), 0), (213, .iconst 1, 0), (214, .goto (4), 0), (217, .iconst 0, 0), (218, .ireturn, 0), (219, .aload_n 1, 0), (220, .invokestatic 47, 1080), (223, .iload_n 3, 0), (224, .if_icmp .gt (7), 0), (227, .iconst 1, 0), (228, .goto (4), 0), (231, .iconst 0, 0), (232, .ireturn, 0), (233, .aload_n 1, 0), (234, .iload 4, 0), (236, .invokevirtual 52, 1032), (239, .ifCond .eq (18), 0), (242, .aload_n 1, 0), (243, .iload 4, 0), (245, .invokevirtual 56, 1027), (248, .iload 5, 0), (250, .if_icmp .ne (7), 0), (253, .iconst 1, 0), (254, .goto (4), 0), (257, .iconst 0, 0), (258, .ireturn, 0), (259, .iconst 0, 0), (260, .ireturn, 0)]
def kc_Scr_succeeds : mv_K := kc_Scr_succeeds_0 ++ (kc_Scr_succeeds_1 ++ (kc_Scr_succeeds_2 ++ (kc_Scr_succeeds_3)))
def kc_Scr_takesAgain : mv_K := [(0, .aload_n 0, 0), (1, .iload_n 1, 0), (2, .invokevirtual 60, 1026), (5, .astore_n 2, 0), (6, .aload_n 0, 0), (7, .iload_n 1, 0), (8, .invokevirtual 52, 1032), (11, .ifCond .eq (11), 0), (14, .aload_n 0, 0), (15, .aload_n 2, 0), (16, .invokevirtual 64, 1029), (19, .goto (6), 0), (22, .sipush (-9999), 0), (25, .istore_n 3, 0), (26, .iload_n 3, 0), (27, .sipush (-9999), 0), (30, .if_icmp .ne (5), 0), (33, .iconst 0, 0), (34, .ireturn, 0), (35, .aload_n 0, 0), (36, .aload_n 2, 0), (37, .iload_n 3, 0), (38, .invokevirtual 68, 1030), (41, .iconst 1, 0), (42, .ireturn, 0)]
def kc_Scr_removes : mv_K := [(0, .aload_n 0, 0), (1, .iload_n 1, 0), (2, .invokevirtual 52, 1032), (5, .ifCond .ne (5), 0), (8, .iconst 0, 0), (9, .ireturn, 0), (10, .aload_n 0, 0), (11, .iload_n 1, 0), (12, .invokevirtual 72, 1031), (15, .iconst 1, 0), (16, .ireturn, 0)]
def kc_Scr_opens : mv_K := [(0, .aload_n 0, 0), (1, .iload_n 1, 0), (2, .iload_n 2, 0), (3, .invokevirtual 76, 1018), (6, .ifCond .eq (5), 0), (9, .iconst 0, 0), (10, .ireturn, 0), (11, .aload_n 0, 0), (12, .iload_n 1, 0), (13, .iload_n 2, 0), (14, .invokevirtual 80, 1020), (17, .iconst 1, 0), (18, .ireturn, 0)]
def kc_Mod_init : mv_K := [(0, .aload_n 0, 0), (1, .invokespecial 1, 3), (4, .aload_n 0, 0), (5, .bipush (50), 0), (7, .newarray .int, 0), (9, .putfield 7, 401), (12, .aload_n 0, 0), (13, .sipush (1221), 0), (16, .newarray .int, 0), (18, .putfield 13, 403), (21, .aload_n 0, 0), (22, .sipush (1221), 0), (25, .newarray .int, 0), (27, .putfield 16, 404), (30, .aload_n 0, 0), (31, .sipush (1221), 0), (34, .newarray .int, 0), (36, .putfield 19, 405), (39, .aload_n 0, 0), (40, .sipush (17094), 0), (43, .newarray .int, 0), (45, .putfield 22, 406), (48, .aload_n 0, 0), (49, .sipush (2442), 0), (52, .newarray .int, 0), (54, .putfield 25, 408), (57, .aload_n 0, 0), (58, .iconst 2, 0), (59, .newarray .boolean, 0), (61, .putfield 28, 409), (64, .aload_n 0, 0), (65, .bipush (24), 0), (67, .newarray .int, 0), (69, .putfield 32, 410), (72, .aload_n 0, 0), (73, .bipush (24), 0), (75, .newarray .int, 0), (77, .putfield 35, 411), (80, .aload_n 0, 0), (81, .bipush (24), 0), (83, .newarray .int, 0), (85, .putfield 38, 412), (88, .aload_n 0, 0), (89, .bipush (64), 0), (91, .newarray .int, 0), (93, .putfield 41, 414), (96, .aload_n 0, 0), (97, .iconst 0, 0), (98, .putfield 44, 407), (101, .return_, 0)]
def kc_Mod_thrown : mv_K := [(0, .aload_n 0, 0), (1, .getfield 48, 400), (4, .ireturn, 0)]
def kc_Mod_append : mv_K := [(0, .aload_n 0, 0), (1, .iload_n 1, 0), (2, .i2l, 0), (3, .lconst 0, 0), (4, .ldc2_w 120, 255), (7, .invokestatic 55, 109), (10, .ifCond .ne (7), 0), (13, .iconst 1, 0), (14, .goto (17), 0), (17, .aload_n 0, 0), (18, .getfield 101, 402), (21, .bipush (50), 0), (23, .if_icmp .ne (7), 0), (26, .iconst 2, 0), (27, .goto (4), 0), (30, .iconst 0, 0), (31, .invokevirtual 122, 110), (34, .ifCond .eq (5), 0), (37, .iconst 0, 0), (38, .ireturn, 0), (39, .aload_n 0, 0), (40, .getfield 7, 401), (43, .aload_n 0, 0), (44, .getfield 101, 402), (47, .iload_n 1, 0), (48, .iastore, 0), (49, .aload_n 0, 0), (50, .dup, 0), (51, .getfield 101, 402), (54, .iconst 1, 0), (55, .iadd, 0), (56, .putfield 101, 402), (59, .aload_n 0, 0), (60, .getfield 101, 402), (63, .ireturn, 0)]
def kc_Mod_in : mv_K := [(0, .lload_n 0, 0), (1, .lload_n 2, 0), (2, .lcmp, 0), (3, .ifCond .lt (14), 0), (6, .lload_n 0, 0), (7, .lload 4, 0), (9, .lcmp, 0), (10, .ifCond .gt (7), 0), (13, .iconst 1, 0), (14, .goto (4), 0), (17, .iconst 0, 0), (18, .ireturn, 0)]
def kc_Mod_refused : mv_K := [(0, .aload_n 0, 0), (1, .iload_n 1, 0), (2, .putfield 48, 400), (5, .iload_n 1, 0), (6, .ifCond .le (7), 0), (9, .iconst 1, 0), (10, .goto (4), 0), (13, .iconst 0, 0), (14, .ireturn, 0)]
def kc_Mod_clearText : mv_K := [(0, .aload_n 0, 0), (1, .getfield 101, 402), (4, .istore_n 1, 0), (5, .aload_n 0, 0), (6, .iconst 0, 0), (7, .putfield 101, 402), (10, .iload_n 1, 0), (11, .ireturn, 0)]
def kc_Mod_errorPosition : mv_K := [(0, .aload_n 0, 0), (1, .invokevirtual 126, 113), (4, .ireturn, 0)]
def kc_Mod_wrong_0 : mv_K := [(0, .iconst 0, 0), (1, .istore_n 1, 0), (2, .sipush (-9999), 0), (5, .istore_n 2, 0), (6, .iconst 0, 0), (7, .istore_n 3, 0), (8, .iconst 0, 0), (9, .istore 4, 0), (11, .iload 4, 0), (13, .aload_n 0, 0), (14, .getfield 101, 402), (17, .if_icmp .ge (109), 0), (20, .aload_n 0, 0), (21, .getfield 7, 401), (24, .iload 4, 0), (26, .iaload, 0), (27, .invokestatic 70, 114), (30, .istore 5, 0), (32, .iload 5, 0), (34, .iconst 2, 0), (35, .if_icmp .eq (9), 0), (38, .iload 5, 0), (40, .iload_n 2, 0), (41, .if_icmp .eq (7), 0), (44, .iconst 1, 0), (45, .goto (4), 0), (48, .iconst 0, 0), (49, .istore 6, 0), (51, .iload_n 1, 0), (52, .iload 6, 0)]
def kc_Mod_wrong_1 : mv_K := [(54, .ifCond .eq (7), 0), (57, .iconst 1, 0), (58, .goto (4), 0), (61, .iconst 0, 0), (62, .iadd, 0), (63, .istore_n 1, 0), (64, .iload 5, 0), (66, .iconst 3, 0), (67, .if_icmp .eq (7), 0), (70, .iconst 0, 0), (71, .goto (15), 0), (74, .iload 6, 0), (76, .ifCond .eq (7), 0), (79, .iconst 1, 0), (80, .goto (6), 0), (83, .iload_n 3, 0), (84, .iconst 1, 0), (85, .iadd, 0), (86, .istore_n 3, 0), (87, .iload 4, 0), (89, .bipush (40), 0), (91, .if_icmp .eq (23), 0), (94, .iload 5, 0), (96, .sipush (-9999), 0), (99, .if_icmp .eq (15), 0), (102, .iload_n 1, 0), (103, .bipush (12), 0), (105, .if_icmp .gt (9), 0), (108, .iload_n 3, 0), (109, .bipush (6), 0)]
def kc_Mod_wrong_2 : mv_K := [(111, .if_icmp .le (6), 0), (114, .iload 4, 0), (116, .ireturn, 0), (117, .iload 5, 0), (119, .istore_n 2, 0), (120, .iinc 4 (1), 0), (123, .goto (-112), 0), (126, .aload_n 0, 0), (127, .getfield 101, 402), (130, .ifCond .ne (7), 0), (133, .iconst 0, 0), (134, .goto (6), 0), (137, .sipush (-9999), 0), (140, .ireturn, 0)]
def kc_Mod_wrong : mv_K := kc_Mod_wrong_0 ++ (kc_Mod_wrong_1 ++ (kc_Mod_wrong_2))
def kc_Mod_signKind : mv_K := [(0, .iload_n 0, 0), (1, .i2l, 0), (2, .ldc2_w 59, 97), (5, .ldc2_w 61, 122), (8, .invokestatic 55, 109), (11, .ifCond .eq (7), 0), (14, .iconst 0, 0), (15, .goto (50), 0), (18, .iload_n 0, 0), (19, .i2l, 0), (20, .ldc2_w 63, 48), (23, .ldc2_w 65, 57), (26, .invokestatic 55, 109), (29, .ifCond .eq (7), 0), (32, .iconst 3, 0), (33, .goto (32), 0), (36, .iload_n 0, 0), (37, .bipush (32), 0), (39, .if_icmp .ne (7), 0), (42, .iconst 1, 0), (43, .goto (22), 0), (46, .iload_n 0, 0), (47, .bipush (58), 0), (49, .if_icmp .eq (9), 0), (52, .iload_n 0, 0), (53, .bipush (61), 0), (55, .if_icmp .ne (7), 0), (58, .iconst 2, 0), (59, .goto (6), 0), (62, .sipush (-9999), 0), (65, .ireturn, 0)]
def kc_Mod_about_0 : mv_K := [(0, .aload_n 0, 0), (1, .iload_n 1, 0), (2, .i2l, 0), (3, .lconst 0, 0), (4, .ldc2_w 133, 7), (7, .invokestatic 55, 109), (10, .ifCond .eq (7), 0), (13, .iconst 0, 0), (14, .goto (4), 0), (17, .iconst 1, 0), (18, .invokevirtual 122, 110), (21, .ifCond .eq (5), 0), (24, .iconst 0, 0), (25, .ireturn, 0), (26, .iconst 0, 0), (27, .istore_n 2, 0), (28, .iload_n 1, 0), (29, .tableswitch (120) (0) (7) #[47, 54, 61, 93, 102, 120, 120, 111], 47), (76, .aload_n 0, 0), (77, .getfield 13, 403), (80, .iconst 0, 0), (81, .iaload, 0), (82, .ireturn, 0), (83, .aload_n 0, 0), (84, .getfield 13, 403), (87, .iconst 1, 0), (88, .iaload, 0), (89, .ireturn, 0), (90, .iconst 0, 0), (91, .istore_n 3, 0)]
def kc_Mod_about_1 : mv_K := [(92, .iload_n 3, 0), (93, .aload_n 0, 0), (94, .getfield 13, 403), (97, .iconst 0, 0), (98, .iaload, 0), (99, .if_icmp .ge (21), 0), (102, .iload_n 2, 0), (103, .aload_n 0, 0), (104, .getfield 13, 403), (107, .iload_n 3, 0), (108, .invokestatic 67, 116), (111, .iaload, 0), (112, .iadd, 0), (113, .istore_n 2, 0), (114, .iinc 3 (1), 0), (117, .goto (-25), 0), (120, .iload_n 2, 0), (121, .ireturn, 0), (122, .aload_n 0, 0), (123, .aload_n 0, 0), (124, .getfield 13, 403), (127, .invokevirtual 135, 117), (130, .ireturn, 0), (131, .aload_n 0, 0), (132, .aload_n 0, 0), (133, .getfield 13, 403), (136, .invokevirtual 139, 127), (139, .ireturn, 0), (140, .aload_n 0, 0), (141, .aload_n 0, 0)]
def kc_Mod_about_2 : mv_K := [(142, .getfield 13, 403), (145, .invokevirtual 142, 130), (148, .ireturn, 0), (149, .iconst 0, 0), (150, .istore_n 3, 0), (151, .iload_n 3, 0), (152, .aload_n 0, 0), (153, .getfield 13, 403), (156, .iconst 1, 0), (157, .iaload, 0), (158, .if_icmp .ge (30), 0), (161, .iload_n 2, 0), (162, .aload_n 0, 0), (163, .getfield 13, 403), (166, .iload_n 3, 0), (167, .iload_n 1, 0), (168, .iconst 5, 0), (169, .if_icmp .ne (7), 0), (172, .iconst 3, 0), (173, .goto (4), 0), (176, .iconst 4, 0), (177, .invokestatic 145, 132), (180, .iadd, 0), (181, .istore_n 2, 0), (182, .iinc 3 (1), 0), (185, .goto (-34), 0), (188, .iload_n 2, 0), (189, .ireturn, 0)]
def kc_Mod_about : mv_K := kc_Mod_about_0 ++ (kc_Mod_about_1 ++ (kc_Mod_about_2))
def kc_Mod_lineAt : mv_K := [(0, .iconst 2, 0), (1, .bipush (42), 0), (3, .iload_n 0, 0), (4, .imul, 0), (5, .iadd, 0), (6, .ireturn, 0)]
def kc_Mod_costOfLines : mv_K := [(0, .iconst 0, 0), (1, .istore_n 2, 0), (2, .iconst 0, 0), (3, .istore_n 3, 0), (4, .iload_n 3, 0), (5, .aload_n 1, 0), (6, .iconst 0, 0), (7, .iaload, 0), (8, .if_icmp .ge (18), 0), (11, .iload_n 2, 0), (12, .aload_n 0, 0), (13, .aload_n 1, 0), (14, .iload_n 3, 0), (15, .invokevirtual 114, 118), (18, .iadd, 0), (19, .istore_n 2, 0), (20, .iinc 3 (1), 0), (23, .goto (-19), 0), (26, .iload_n 2, 0), (27, .ireturn, 0)]
def kc_Mod_costOfLine : mv_K := [(0, .aload_n 1, 0), (1, .iload_n 2, 0), (2, .invokestatic 67, 116), (5, .iconst 1, 0), (6, .iadd, 0), (7, .iaload, 0), (8, .istore_n 3, 0), (9, .iconst 1, 0), (10, .istore 4, 0), (12, .iconst 0, 0), (13, .istore 5, 0), (15, .iload 5, 0), (17, .aload_n 1, 0), (18, .iload_n 3, 0), (19, .invokestatic 51, 119), (22, .iaload, 0), (23, .if_icmp .ge (60), 0), (26, .aload_n 1, 0), (27, .iload_n 3, 0), (28, .iload 5, 0), (30, .invokestatic 84, 120), (33, .istore 6, 0), (35, .iload 4, 0), (37, .iload 6, 0), (39, .iconst 3, 0), (40, .if_icmp .ne (15), 0), (43, .aload_n 0, 0), (44, .aload_n 1, 0), (45, .iload_n 3, 0), (46, .iload_n 2, 0), (47, .iload 5, 0), (49, .invokevirtual 107, 121), (52, .goto (22), 0), (55, .iload 6, 0), (57, .iconst 4, 0), (58, .if_icmp .ne (15), 0), (61, .aload_n 0, 0), (62, .aload_n 1, 0), (63, .iload_n 3, 0), (64, .iload_n 2, 0), (65, .iload 5, 0), (67, .invokevirtual 111, 125), (70, .goto (4), 0), (73, .iconst 0, 0), (74, .iadd, 0), (75, .istore 4, 0), (77, .iinc 5 (1), 0), (80, .goto (-65), 0), (83, .iload 4, 0), (85, .ireturn, 0)]
def kc_Mod_templateAt : mv_K := [(0, .sipush (1052), 0), (3, .bipush (13), 0), (5, .iload_n 0, 0), (6, .imul, 0), (7, .iadd, 0), (8, .ireturn, 0)]
def kc_Mod_kindOf : mv_K := [(0, .aload_n 0, 0), (1, .iload_n 1, 0), (2, .invokestatic 51, 119), (5, .iconst 1, 0), (6, .iadd, 0), (7, .iload_n 2, 0), (8, .iadd, 0), (9, .iaload, 0), (10, .ireturn, 0)]
def kc_Mod_numberCost_0 : mv_K := [(0, .aload_n 1, 0), (1, .iload_n 2, 0), (2, .iload_n 3, 0), (3, .invokestatic 73, 122), (6, .istore 5, 0), (8, .aload_n 0, 0), (9, .aload_n 1, 0), (10, .iload_n 3, 0), (11, .iconst 0, 0), (12, .invokevirtual 77, 123), (15, .pop, 0), (16, .aload_n 0, 0), (17, .getfield 35, 411), (20, .iload 4, 0), (22, .iaload, 0), (23, .istore 6, 0), (25, .aload_n 0, 0), (26, .aload_n 1, 0), (27, .iload 4, 0), (29, .invokevirtual 104, 124), (32, .istore 7, 0), (34, .iload 5, 0), (36, .sipush (-9999), 0), (39, .if_icmp .ne (6), 0), (42, .iload 6, 0), (44, .ireturn, 0), (45, .aload_n 0, 0), (46, .aload_n 1, 0), (47, .iload 5, 0), (49, .iconst 0, 0)]
def kc_Mod_numberCost_1 : mv_K := [(50, .invokevirtual 77, 123), (53, .pop, 0), (54, .aload_n 0, 0), (55, .aload_n 1, 0), (56, .iload 4, 0), (58, .invokevirtual 104, 124), (61, .istore 8, 0), (63, .aload_n 0, 0), (64, .getfield 35, 411), (67, .iload 4, 0), (69, .iaload, 0), (70, .iload 6, 0), (72, .if_icmp .ne (7), 0), (75, .iconst 1, 0), (76, .goto (4), 0), (79, .iconst 0, 0), (80, .istore 9, 0), (82, .aload_n 1, 0), (83, .iload_n 2, 0), (84, .iload 5, 0), (86, .invokestatic 73, 122), (89, .istore 10, 0), (91, .iconst 0, 0), (92, .istore 11, 0), (94, .iload 10, 0), (96, .sipush (-9999), 0), (99, .if_icmp .eq (24), 0), (102, .aload_n 0, 0), (103, .aload_n 1, 0), (104, .iload 10, 0)]
def kc_Mod_numberCost_2 : mv_K := [(106, .iconst 0, 0), (107, .invokevirtual 77, 123), (110, .pop, 0), (111, .iload 8, 0), (113, .aload_n 0, 0), (114, .aload_n 1, 0), (115, .iload 4, 0), (117, .invokevirtual 104, 124), (120, .isub, 0), (121, .istore 11, 0), (123, .iload 9, 0), (125, .ifCond .eq (17), 0), (128, .iload 7, 0), (130, .iload 8, 0), (132, .iload 11, 0), (134, .iadd, 0), (135, .if_icmp .ne (7), 0), (138, .iconst 1, 0), (139, .goto (5), 0), (142, .iload 6, 0), (144, .ireturn, 0)]
def kc_Mod_numberCost : mv_K := kc_Mod_numberCost_0 ++ (kc_Mod_numberCost_1 ++ (kc_Mod_numberCost_2))
def kc_Mod_lineBefore : mv_K := [(0, .iload_n 2, 0), (1, .iconst 1, 0), (2, .isub, 0), (3, .istore_n 3, 0), (4, .iload_n 3, 0), (5, .ifCond .lt (21), 0), (8, .aload_n 0, 0), (9, .iload_n 3, 0), (10, .invokestatic 67, 116), (13, .iconst 1, 0), (14, .iadd, 0), (15, .iaload, 0), (16, .iload_n 1, 0), (17, .if_icmp .eq (9), 0), (20, .iinc 3 (-1), 0), (23, .goto (-19), 0), (26, .iload_n 3, 0), (27, .ifCond .lt (7), 0), (30, .iload_n 3, 0), (31, .goto (6), 0), (34, .sipush (-9999), 0), (37, .ireturn, 0)]
def kc_Mod_cut_0 : mv_K := [(0, .iload_n 2, 0), (1, .invokestatic 67, 116), (4, .istore 4, 0), (6, .iconst 0, 0), (7, .istore 5, 0), (9, .iconst 0, 0), (10, .istore 6, 0), (12, .iload 6, 0), (14, .aload_n 1, 0), (15, .iload 4, 0), (17, .iaload, 0), (18, .if_icmp .ge (105), 0), (21, .aload_n 1, 0), (22, .iload 4, 0), (24, .iconst 2, 0), (25, .iadd, 0), (26, .iload 6, 0), (28, .iadd, 0), (29, .iaload, 0), (30, .invokestatic 70, 114), (33, .istore 7, 0), (35, .iload 5, 0), (37, .ifCond .eq (25), 0), (40, .iload 7, 0), (42, .iconst 2, 0), (43, .if_icmp .eq (19), 0), (46, .iload 7, 0), (48, .aload_n 0, 0), (49, .getfield 38, 412), (52, .iload_n 3, 0)]
def kc_Mod_cut_1 : mv_K := [(53, .iload 5, 0), (55, .iadd, 0), (56, .iconst 1, 0), (57, .isub, 0), (58, .iaload, 0), (59, .if_icmp .eq (43), 0), (62, .aload_n 0, 0), (63, .getfield 32, 410), (66, .iload_n 3, 0), (67, .iload 5, 0), (69, .iadd, 0), (70, .iload 4, 0), (72, .iconst 2, 0), (73, .iadd, 0), (74, .iload 6, 0), (76, .iadd, 0), (77, .iastore, 0), (78, .aload_n 0, 0), (79, .getfield 35, 411), (82, .iload_n 3, 0), (83, .iload 5, 0), (85, .iadd, 0), (86, .iconst 0, 0), (87, .iastore, 0), (88, .aload_n 0, 0), (89, .getfield 38, 412), (92, .iload_n 3, 0), (93, .iload 5, 0), (95, .iadd, 0), (96, .iload 7, 0)]
def kc_Mod_cut_2 : mv_K := [(98, .iastore, 0), (99, .iinc 5 (1), 0), (102, .aload_n 0, 0), (103, .getfield 35, 411), (106, .iload_n 3, 0), (107, .iload 5, 0), (109, .iadd, 0), (110, .iconst 1, 0), (111, .isub, 0), (112, .dup2, 0), (113, .iaload, 0), (114, .iconst 1, 0), (115, .iadd, 0), (116, .iastore, 0), (117, .iinc 6 (1), 0), (120, .goto (-108), 0), (123, .iload 5, 0), (125, .ireturn, 0)]
def kc_Mod_cut : mv_K := kc_Mod_cut_0 ++ (kc_Mod_cut_1 ++ (kc_Mod_cut_2))
def kc_Mod_valueAt : mv_K := [(0, .iconst 0, 0), (1, .istore_n 3, 0), (2, .iconst 0, 0), (3, .istore 4, 0), (5, .iload 4, 0), (7, .aload_n 0, 0), (8, .getfield 35, 411), (11, .iload_n 2, 0), (12, .iaload, 0), (13, .if_icmp .ge (29), 0), (16, .bipush (10), 0), (18, .iload_n 3, 0), (19, .imul, 0), (20, .aload_n 1, 0), (21, .aload_n 0, 0), (22, .getfield 32, 410), (25, .iload_n 2, 0), (26, .iaload, 0), (27, .iload 4, 0), (29, .iadd, 0), (30, .iaload, 0), (31, .iadd, 0), (32, .bipush (48), 0), (34, .isub, 0), (35, .istore_n 3, 0), (36, .iinc 4 (1), 0), (39, .goto (-34), 0), (42, .iload_n 3, 0), (43, .ireturn, 0)]
def kc_Mod_wordCost : mv_K := [(0, .aload_n 0, 0), (1, .aload_n 1, 0), (2, .iload_n 3, 0), (3, .iconst 0, 0), (4, .invokevirtual 77, 123), (7, .pop, 0), (8, .aload_n 1, 0), (9, .iload_n 2, 0), (10, .iload_n 3, 0), (11, .invokestatic 73, 122), (14, .istore 5, 0), (16, .iload 5, 0), (18, .sipush (-9999), 0), (21, .if_icmp .eq (42), 0), (24, .aload_n 0, 0), (25, .aload_n 1, 0), (26, .iload 5, 0), (28, .bipush (12), 0), (30, .invokevirtual 77, 123), (33, .pop, 0), (34, .aload_n 0, 0), (35, .aload_n 1, 0), (36, .iload 4, 0), (38, .bipush (12), 0), (40, .iload 4, 0), (42, .iadd, 0), (43, .invokevirtual 87, 126), (46, .ifCond .eq (5), 0), (49, .iconst 1, 0), (50, .ireturn, 0), (51, .aload_n 1, 0), (52, .iload_n 2, 0), (53, .iload 5, 0), (55, .invokestatic 73, 122), (58, .istore 5, 0), (60, .goto (-44), 0), (63, .aload_n 0, 0), (64, .getfield 35, 411), (67, .iload 4, 0), (69, .iaload, 0), (70, .ireturn, 0)]
def kc_Mod_areSame : mv_K := [(0, .aload_n 0, 0), (1, .getfield 35, 411), (4, .iload_n 2, 0), (5, .iaload, 0), (6, .aload_n 0, 0), (7, .getfield 35, 411), (10, .iload_n 3, 0), (11, .iaload, 0), (12, .if_icmp .ne (7), 0), (15, .iconst 1, 0), (16, .goto (4), 0), (19, .iconst 0, 0), (20, .istore 4, 0), (22, .iconst 0, 0), (23, .istore 5, 0), (25, .iload 5, 0), (27, .aload_n 0, 0), (28, .getfield 35, 411), (31, .iload_n 2, 0), (32, .iaload, 0), (33, .if_icmp .ge (46), 0), (36, .iload 4, 0), (38, .ifCond .eq (41), 0), (41, .aload_n 1, 0), (42, .aload_n 0, 0), (43, .getfield 32, 410), (46, .iload_n 2, 0), (47, .iaload, 0), (48, .iload 5, 0), (50, .iadd, 0), (51, .iaload, 0), (52, .aload_n 1, 0), (53, .aload_n 0, 0), (54, .getfield 32, 410), (57, .iload_n 3, 0), (58, .iaload, 0), (59, .iload 5, 0), (61, .iadd, 0), (62, .iaload, 0), (63, .if_icmp .ne (7), 0), (66, .iconst 1, 0), (67, .goto (4), 0), (70, .iconst 0, 0), (71, .istore 4, 0), (73, .iinc 5 (1), 0), (76, .goto (-51), 0), (79, .iload 4, 0), (81, .ireturn, 0)]
def kc_Mod_costOfTemplates : mv_K := [(0, .iconst 0, 0), (1, .istore_n 2, 0), (2, .iconst 0, 0), (3, .istore_n 3, 0), (4, .iload_n 3, 0), (5, .aload_n 1, 0), (6, .iconst 1, 0), (7, .iaload, 0), (8, .if_icmp .ge (18), 0), (11, .iload_n 2, 0), (12, .aload_n 0, 0), (13, .aload_n 1, 0), (14, .iload_n 3, 0), (15, .invokevirtual 117, 128), (18, .iadd, 0), (19, .istore_n 2, 0), (20, .iinc 3 (1), 0), (23, .goto (-19), 0), (26, .iload_n 2, 0), (27, .ireturn, 0)]
def kc_Mod_costOfTemplate : mv_K := [(0, .aload_n 0, 0), (1, .aload_n 1, 0), (2, .aload_n 1, 0), (3, .iload_n 2, 0), (4, .invokestatic 80, 129), (7, .iconst 0, 0), (8, .invokevirtual 77, 123), (11, .pop, 0), (12, .iconst 0, 0), (13, .istore_n 3, 0), (14, .iconst 0, 0), (15, .istore 4, 0), (17, .iload 4, 0), (19, .aload_n 1, 0), (20, .iload_n 2, 0), (21, .invokestatic 51, 119), (24, .iaload, 0), (25, .if_icmp .ge (34), 0), (28, .iload_n 3, 0), (29, .aload_n 1, 0), (30, .iload_n 2, 0), (31, .iload 4, 0), (33, .invokestatic 84, 120), (36, .iconst 3, 0), (37, .if_icmp .ge (13), 0), (40, .aload_n 0, 0), (41, .getfield 35, 411), (44, .iload 4, 0), (46, .iaload, 0), (47, .goto (4), 0), (50, .iconst 1, 0), (51, .iadd, 0), (52, .istore_n 3, 0), (53, .iinc 4 (1), 0), (56, .goto (-39), 0), (59, .iload_n 3, 0), (60, .ireturn, 0)]
def kc_Mod_firstLine : mv_K := [(0, .iconst 0, 0), (1, .istore_n 2, 0), (2, .aload_n 0, 0), (3, .iload_n 2, 0), (4, .invokestatic 67, 116), (7, .iconst 1, 0), (8, .iadd, 0), (9, .iaload, 0), (10, .iload_n 1, 0), (11, .if_icmp .eq (9), 0), (14, .iinc 2 (1), 0), (17, .goto (-15), 0), (20, .iload_n 2, 0), (21, .ireturn, 0)]
def kc_Mod_differentWords : mv_K := [(0, .iconst 0, 0), (1, .istore_n 2, 0), (2, .iconst 0, 0), (3, .istore_n 3, 0), (4, .iload_n 3, 0), (5, .aload_n 1, 0), (6, .iconst 0, 0), (7, .iaload, 0), (8, .if_icmp .ge (63), 0), (11, .aload_n 0, 0), (12, .aload_n 1, 0), (13, .iload_n 3, 0), (14, .iconst 0, 0), (15, .invokevirtual 77, 123), (18, .istore 4, 0), (20, .iconst 0, 0), (21, .istore 5, 0), (23, .iload 5, 0), (25, .iload 4, 0), (27, .if_icmp .ge (38), 0), (30, .iload_n 2, 0), (31, .aload_n 0, 0), (32, .getfield 38, 412), (35, .iload 5, 0), (37, .iaload, 0), (38, .ifCond .ne (18), 0), (41, .aload_n 0, 0), (42, .aload_n 1, 0), (43, .iload_n 3, 0), (44, .iload 5, 0), (46, .invokevirtual 130, 131), (49, .ifCond .eq (7), 0), (52, .iconst 1, 0), (53, .goto (4), 0), (56, .iconst 0, 0), (57, .iadd, 0), (58, .istore_n 2, 0), (59, .iinc 5 (1), 0), (62, .goto (-39), 0), (65, .iinc 3 (1), 0), (68, .goto (-64), 0), (71, .iload_n 2, 0), (72, .ireturn, 0)]
def kc_Mod_isNewWord : mv_K := [(0, .iconst 0, 0), (1, .istore 4, 0), (3, .iload 4, 0), (5, .iload_n 2, 0), (6, .if_icmp .gt (77), 0), (9, .aload_n 0, 0), (10, .aload_n 1, 0), (11, .iload 4, 0), (13, .bipush (12), 0), (15, .invokevirtual 77, 123), (18, .istore 5, 0), (20, .iconst 0, 0), (21, .istore 6, 0), (23, .iload 6, 0), (25, .iload 5, 0), (27, .if_icmp .ge (50), 0), (30, .iload 4, 0), (32, .iload_n 2, 0), (33, .if_icmp .lt (9), 0), (36, .iload 6, 0), (38, .iload_n 3, 0), (39, .if_icmp .ge (38), 0), (42, .aload_n 0, 0), (43, .getfield 38, 412), (46, .bipush (12), 0), (48, .iload 6, 0), (50, .iadd, 0), (51, .iaload, 0), (52, .ifCond .ne (19), 0), (55, .aload_n 0, 0), (56, .aload_n 1, 0), (57, .iload_n 3, 0), (58, .bipush (12), 0), (60, .iload 6, 0), (62, .iadd, 0), (63, .invokevirtual 87, 126), (66, .ifCond .eq (5), 0), (69, .iconst 0, 0), (70, .ireturn, 0), (71, .iinc 6 (1), 0), (74, .goto (-51), 0), (77, .iinc 4 (1), 0), (80, .goto (-77), 0), (83, .iconst 1, 0), (84, .ireturn, 0)]
def kc_Mod_slots : mv_K := [(0, .iconst 0, 0), (1, .istore_n 3, 0), (2, .iconst 0, 0), (3, .istore 4, 0), (5, .iload 4, 0), (7, .aload_n 0, 0), (8, .iload_n 1, 0), (9, .invokestatic 51, 119), (12, .iaload, 0), (13, .if_icmp .ge (28), 0), (16, .iload_n 3, 0), (17, .aload_n 0, 0), (18, .iload_n 1, 0), (19, .iload 4, 0), (21, .invokestatic 84, 120), (24, .iload_n 2, 0), (25, .if_icmp .ne (7), 0), (28, .iconst 1, 0), (29, .goto (4), 0), (32, .iconst 0, 0), (33, .iadd, 0), (34, .istore_n 3, 0), (35, .iinc 4 (1), 0), (38, .goto (-33), 0), (41, .iload_n 3, 0), (42, .ireturn, 0)]
def kc_Mod_line : mv_K := [(0, .aload_n 0, 0), (1, .aload_n 0, 0), (2, .getfield 13, 403), (5, .iload_n 1, 0), (6, .invokestatic 148, 134), (9, .ifCond .ne (7), 0), (12, .iconst 1, 0), (13, .goto (20), 0), (16, .iload_n 2, 0), (17, .i2l, 0), (18, .lconst 0, 0), (19, .ldc2_w 152, 3), (22, .invokestatic 55, 109), (25, .ifCond .eq (7), 0), (28, .iconst 0, 0), (29, .goto (4), 0), (32, .iconst 2, 0), (33, .invokevirtual 122, 110), (36, .ifCond .eq (5), 0), (39, .iconst 0, 0), (40, .ireturn, 0), (41, .aload_n 0, 0), (42, .getfield 13, 403), (45, .iload_n 1, 0), (46, .invokestatic 67, 116), (49, .iconst 1, 0), (50, .iadd, 0), (51, .iaload, 0), (52, .istore_n 3, 0), (53, .iload_n 2, 0), (54, .ifCond .ne (7), 0), (57, .iload_n 3, 0), (58, .goto (46), 0), (61, .iload_n 2, 0), (62, .iconst 1, 0), (63, .if_icmp .ne (15), 0), (66, .aload_n 0, 0), (67, .getfield 13, 403), (70, .iload_n 1, 0), (71, .invokestatic 67, 116), (74, .iaload, 0), (75, .goto (29), 0), (78, .iload_n 2, 0), (79, .iconst 2, 0), (80, .if_icmp .ne (15), 0), (83, .aload_n 0, 0), (84, .aload_n 0, 0), (85, .getfield 13, 403), (88, .iload_n 1, 0), (89, .invokevirtual 114, 118), (92, .goto (12), 0), (95, .aload_n 0, 0), (96, .getfield 13, 403), (99, .iload_n 3, 0), (100, .iload_n 1, 0), (101, .invokestatic 154, 135), (104, .ireturn, 0)]
def kc_Mod_isLine : mv_K := [(0, .iload_n 1, 0), (1, .i2l, 0), (2, .lconst 0, 0), (3, .aload_n 0, 0), (4, .iconst 0, 0), (5, .iaload, 0), (6, .iconst 1, 0), (7, .isub, 0), (8, .i2l, 0), (9, .invokestatic 55, 109), (12, .ireturn, 0)]
def kc_Mod_linesOf : mv_K := [(0, .iconst 0, 0), (1, .istore_n 3, 0), (2, .iconst 0, 0), (3, .istore 4, 0), (5, .iload 4, 0), (7, .iload_n 2, 0), (8, .if_icmp .ge (30), 0), (11, .iload_n 3, 0), (12, .aload_n 0, 0), (13, .iload 4, 0), (15, .invokestatic 67, 116), (18, .iconst 1, 0), (19, .iadd, 0), (20, .iaload, 0), (21, .iload_n 1, 0), (22, .if_icmp .ne (7), 0), (25, .iconst 1, 0), (26, .goto (4), 0), (29, .iconst 0, 0), (30, .iadd, 0), (31, .istore_n 3, 0), (32, .iinc 4 (1), 0), (35, .goto (-30), 0), (38, .iload_n 3, 0), (39, .ireturn, 0)]
def kc_Mod_charAt : mv_K := [(0, .aload_n 0, 0), (1, .aload_n 0, 0), (2, .getfield 13, 403), (5, .iload_n 1, 0), (6, .invokestatic 148, 134), (9, .ifCond .ne (7), 0), (12, .iconst 1, 0), (13, .goto (12), 0), (16, .iload_n 2, 0), (17, .ifCond .ge (7), 0), (20, .iconst 2, 0), (21, .goto (4), 0), (24, .iconst 0, 0), (25, .invokevirtual 122, 110), (28, .ifCond .eq (5), 0), (31, .iconst 0, 0), (32, .ireturn, 0), (33, .iload_n 2, 0), (34, .aload_n 0, 0), (35, .getfield 13, 403), (38, .iload_n 1, 0), (39, .invokestatic 67, 116), (42, .iaload, 0), (43, .if_icmp .ge (19), 0), (46, .aload_n 0, 0), (47, .getfield 13, 403), (50, .iload_n 1, 0), (51, .invokestatic 67, 116), (54, .iconst 2, 0), (55, .iadd, 0), (56, .iload_n 2, 0), (57, .iadd, 0), (58, .iaload, 0), (59, .goto (6), 0), (62, .sipush (-9999), 0), (65, .ireturn, 0)]
def kc_Mod_value : mv_K := [(0, .aload_n 0, 0), (1, .aload_n 0, 0), (2, .getfield 13, 403), (5, .iload_n 1, 0), (6, .invokestatic 148, 134), (9, .ifCond .eq (16), 0), (12, .aload_n 0, 0), (13, .aload_n 0, 0), (14, .getfield 13, 403), (17, .iload_n 1, 0), (18, .iconst 0, 0), (19, .invokevirtual 77, 123), (22, .goto (4), 0), (25, .iconst 0, 0), (26, .putfield 157, 413), (29, .aload_n 0, 0), (30, .iload_n 2, 0), (31, .i2l, 0), (32, .lconst 0, 0), (33, .aload_n 0, 0), (34, .getfield 157, 413), (37, .iconst 1, 0), (38, .isub, 0), (39, .i2l, 0), (40, .invokestatic 55, 109), (43, .ifCond .eq (7), 0), (46, .iconst 0, 0), (47, .goto (4), 0), (50, .iconst 1, 0), (51, .invokevirtual 122, 110), (54, .ifCond .eq (5), 0), (57, .iconst 0, 0), (58, .ireturn, 0), (59, .aload_n 0, 0), (60, .getfield 38, 412), (63, .iload_n 2, 0), (64, .iaload, 0), (65, .iconst 3, 0), (66, .if_icmp .ne (15), 0), (69, .aload_n 0, 0), (70, .aload_n 0, 0), (71, .getfield 13, 403), (74, .iload_n 2, 0), (75, .invokevirtual 104, 124), (78, .goto (6), 0), (81, .sipush (-9999), 0), (84, .ireturn, 0)]
def kc_Mod_template_0 : mv_K := [(0, .aload_n 0, 0), (1, .aload_n 0, 0), (2, .getfield 13, 403), (5, .iload_n 1, 0), (6, .invokestatic 160, 139), (9, .ifCond .ne (7), 0), (12, .iconst 1, 0), (13, .goto (20), 0), (16, .iload_n 2, 0), (17, .i2l, 0), (18, .lconst 0, 0), (19, .ldc2_w 163, 5), (22, .invokestatic 55, 109), (25, .ifCond .eq (7), 0), (28, .iconst 0, 0), (29, .goto (4), 0), (32, .iconst 2, 0), (33, .invokevirtual 122, 110), (36, .ifCond .eq (5), 0), (39, .iconst 0, 0), (40, .ireturn, 0), (41, .iload_n 2, 0), (42, .tableswitch (89) (0) (4) #[34, 44, 59, 69, 79], 34), (76, .aload_n 0, 0), (77, .getfield 13, 403), (80, .iload_n 1, 0), (81, .invokestatic 51, 119), (84, .iaload, 0), (85, .ireturn, 0), (86, .aload_n 0, 0)]
def kc_Mod_template_1 : mv_K := [(87, .getfield 13, 403), (90, .iload_n 1, 0), (91, .aload_n 0, 0), (92, .getfield 13, 403), (95, .iconst 0, 0), (96, .iaload, 0), (97, .invokestatic 154, 135), (100, .ireturn, 0), (101, .aload_n 0, 0), (102, .getfield 13, 403), (105, .iload_n 1, 0), (106, .iconst 3, 0), (107, .invokestatic 145, 132), (110, .ireturn, 0), (111, .aload_n 0, 0), (112, .getfield 13, 403), (115, .iload_n 1, 0), (116, .iconst 4, 0), (117, .invokestatic 145, 132), (120, .ireturn, 0), (121, .aload_n 0, 0), (122, .aload_n 0, 0), (123, .getfield 13, 403), (126, .iload_n 1, 0), (127, .invokevirtual 117, 128), (130, .ireturn, 0), (131, .aload_n 0, 0), (132, .getfield 13, 403), (135, .iload_n 1, 0), (136, .invokestatic 80, 129)]
def kc_Mod_template_2 : mv_K := [(139, .ireturn, 0)]
def kc_Mod_template : mv_K := kc_Mod_template_0 ++ (kc_Mod_template_1 ++ (kc_Mod_template_2))
def kc_Mod_isTemplate : mv_K := [(0, .iload_n 1, 0), (1, .i2l, 0), (2, .lconst 0, 0), (3, .aload_n 0, 0), (4, .iconst 1, 0), (5, .iaload, 0), (6, .iconst 1, 0), (7, .isub, 0), (8, .i2l, 0), (9, .invokestatic 55, 109), (12, .ireturn, 0)]
def kc_Mod_piece_0 : mv_K := [(0, .aload_n 0, 0), (1, .aload_n 0, 0), (2, .getfield 13, 403), (5, .iload_n 1, 0), (6, .iload_n 2, 0), (7, .invokestatic 165, 141), (10, .ifCond .ne (7), 0), (13, .iconst 1, 0), (14, .goto (20), 0), (17, .iload_n 3, 0), (18, .i2l, 0), (19, .lconst 0, 0), (20, .ldc2_w 168, 2), (23, .invokestatic 55, 109), (26, .ifCond .eq (7), 0), (29, .iconst 0, 0), (30, .goto (4), 0), (33, .iconst 2, 0), (34, .invokevirtual 122, 110), (37, .ifCond .eq (5), 0), (40, .iconst 0, 0), (41, .ireturn, 0), (42, .aload_n 0, 0), (43, .getfield 13, 403), (46, .iload_n 1, 0), (47, .iload_n 2, 0), (48, .invokestatic 84, 120), (51, .istore 4, 0), (53, .iload_n 3, 0), (54, .iconst 2, 0)]
def kc_Mod_piece_1 : mv_K := [(55, .if_icmp .ge (47), 0), (58, .aload_n 0, 0), (59, .aload_n 0, 0), (60, .getfield 13, 403), (63, .aload_n 0, 0), (64, .getfield 13, 403), (67, .iload_n 1, 0), (68, .invokestatic 80, 129), (71, .iconst 0, 0), (72, .invokevirtual 77, 123), (75, .pop, 0), (76, .iload_n 3, 0), (77, .ifCond .ne (8), 0), (80, .iload 4, 0), (82, .goto (19), 0), (85, .iload 4, 0), (87, .iconst 3, 0), (88, .if_icmp .ge (12), 0), (91, .aload_n 0, 0), (92, .getfield 35, 411), (95, .iload_n 2, 0), (96, .iaload, 0), (97, .goto (4), 0), (100, .iconst 0, 0), (101, .ireturn, 0), (102, .iconst 0, 0), (103, .istore 5, 0), (105, .iconst 0, 0), (106, .istore 6, 0), (108, .iload 6, 0)]
def kc_Mod_piece_2 : mv_K := [(110, .aload_n 0, 0), (111, .getfield 13, 403), (114, .iconst 0, 0), (115, .iaload, 0), (116, .if_icmp .ge (50), 0), (119, .iload 5, 0), (121, .aload_n 0, 0), (122, .getfield 13, 403), (125, .iload 6, 0), (127, .invokestatic 67, 116), (130, .iconst 1, 0), (131, .iadd, 0), (132, .iaload, 0), (133, .iload_n 1, 0), (134, .if_icmp .ne (22), 0), (137, .aload_n 0, 0), (138, .aload_n 0, 0), (139, .getfield 13, 403), (142, .iload_n 1, 0), (143, .iload 6, 0), (145, .iload_n 2, 0), (146, .invokevirtual 170, 142), (149, .ifCond .eq (7), 0), (152, .iconst 1, 0), (153, .goto (4), 0), (156, .iconst 0, 0), (157, .iadd, 0), (158, .istore 5, 0), (160, .iinc 6 (1), 0), (163, .goto (-55), 0)]
def kc_Mod_piece_3 : mv_K := [(166, .iload 5, 0), (168, .ireturn, 0)]
def kc_Mod_piece : mv_K := kc_Mod_piece_0 ++ (kc_Mod_piece_1 ++ (kc_Mod_piece_2 ++ (kc_Mod_piece_3)))
def kc_Mod_isPiece : mv_K := [(0, .aload_n 0, 0), (1, .iload_n 1, 0), (2, .invokestatic 160, 139), (5, .ifCond .eq (25), 0), (8, .iload_n 2, 0), (9, .i2l, 0), (10, .lconst 0, 0), (11, .aload_n 0, 0), (12, .iload_n 1, 0), (13, .invokestatic 51, 119), (16, .iaload, 0), (17, .iconst 1, 0), (18, .isub, 0), (19, .i2l, 0), (20, .invokestatic 55, 109), (23, .ifCond .eq (7), 0), (26, .iconst 1, 0), (27, .goto (4), 0), (30, .iconst 0, 0), (31, .ireturn, 0)]
def kc_Mod_isNewThing_0 : mv_K := [(0, .aload_n 0, 0), (1, .aload_n 1, 0), (2, .iload_n 3, 0), (3, .iconst 0, 0), (4, .invokevirtual 77, 123), (7, .pop, 0), (8, .aload_n 1, 0), (9, .iload_n 2, 0), (10, .iload_n 3, 0), (11, .invokestatic 73, 122), (14, .istore 5, 0), (16, .iload 5, 0), (18, .sipush (-9999), 0), (21, .if_icmp .eq (85), 0), (24, .aload_n 0, 0), (25, .aload_n 1, 0), (26, .iload 5, 0), (28, .bipush (12), 0), (30, .invokevirtual 77, 123), (33, .pop, 0), (34, .aload_n 1, 0), (35, .iload_n 2, 0), (36, .iload 4, 0), (38, .invokestatic 84, 120), (41, .iconst 3, 0), (42, .if_icmp .ne (31), 0), (45, .aload_n 0, 0), (46, .aload_n 1, 0), (47, .iload 4, 0), (49, .invokevirtual 104, 124)]
def kc_Mod_isNewThing_1 : mv_K := [(52, .aload_n 0, 0), (53, .aload_n 1, 0), (54, .bipush (12), 0), (56, .iload 4, 0), (58, .iadd, 0), (59, .invokevirtual 104, 124), (62, .if_icmp .ne (7), 0), (65, .iconst 1, 0), (66, .goto (19), 0), (69, .iconst 0, 0), (70, .goto (15), 0), (73, .aload_n 0, 0), (74, .aload_n 1, 0), (75, .iload 4, 0), (77, .bipush (12), 0), (79, .iload 4, 0), (81, .iadd, 0), (82, .invokevirtual 87, 126), (85, .istore 6, 0), (87, .iload 6, 0), (89, .ifCond .eq (5), 0), (92, .iconst 0, 0), (93, .ireturn, 0), (94, .aload_n 1, 0), (95, .iload_n 2, 0), (96, .iload 5, 0), (98, .invokestatic 73, 122), (101, .istore 5, 0), (103, .goto (-87), 0), (106, .iconst 1, 0)]
def kc_Mod_isNewThing_2 : mv_K := [(107, .ireturn, 0)]
def kc_Mod_isNewThing : mv_K := kc_Mod_isNewThing_0 ++ (kc_Mod_isNewThing_1 ++ (kc_Mod_isNewThing_2))
def kc_Mod_rises_0 : mv_K := [(0, .aload_n 0, 0), (1, .aload_n 0, 0), (2, .getfield 13, 403), (5, .iload_n 1, 0), (6, .iload_n 2, 0), (7, .invokestatic 165, 141), (10, .ifCond .eq (7), 0), (13, .iconst 0, 0), (14, .goto (4), 0), (17, .iconst 1, 0), (18, .invokevirtual 122, 110), (21, .ifCond .eq (5), 0), (24, .iconst 0, 0), (25, .ireturn, 0), (26, .aload_n 0, 0), (27, .getfield 13, 403), (30, .iload_n 1, 0), (31, .iload_n 2, 0), (32, .invokestatic 84, 120), (35, .iconst 3, 0), (36, .if_icmp .eq (7), 0), (39, .sipush (-9999), 0), (42, .ireturn, 0), (43, .aload_n 0, 0), (44, .getfield 13, 403), (47, .iload_n 1, 0), (48, .invokestatic 174, 144), (51, .istore_n 3, 0), (52, .aload_n 0, 0), (53, .aload_n 0, 0)]
def kc_Mod_rises_1 : mv_K := [(54, .getfield 13, 403), (57, .iload_n 3, 0), (58, .iconst 0, 0), (59, .invokevirtual 77, 123), (62, .pop, 0), (63, .aload_n 0, 0), (64, .aload_n 0, 0), (65, .getfield 13, 403), (68, .iload_n 2, 0), (69, .invokevirtual 104, 124), (72, .istore 4, 0), (74, .iconst 0, 0), (75, .istore 5, 0), (77, .iconst 1, 0), (78, .istore 6, 0), (80, .iconst 1, 0), (81, .istore 7, 0), (83, .iload 7, 0), (85, .ifCond .eq (110), 0), (88, .aload_n 0, 0), (89, .getfield 13, 403), (92, .iload_n 1, 0), (93, .iload_n 3, 0), (94, .invokestatic 73, 122), (97, .istore_n 3, 0), (98, .iload_n 3, 0), (99, .sipush (-9999), 0), (102, .if_icmp .eq (7), 0), (105, .iconst 1, 0), (106, .goto (4), 0)]
def kc_Mod_rises_2 : mv_K := [(109, .iconst 0, 0), (110, .istore 7, 0), (112, .iload 7, 0), (114, .ifCond .eq (-31), 0), (117, .aload_n 0, 0), (118, .aload_n 0, 0), (119, .getfield 13, 403), (122, .iload_n 3, 0), (123, .iconst 0, 0), (124, .invokevirtual 77, 123), (127, .pop, 0), (128, .iload 4, 0), (130, .aload_n 0, 0), (131, .aload_n 0, 0), (132, .getfield 13, 403), (135, .iload_n 2, 0), (136, .invokevirtual 104, 124), (139, .isub, 0), (140, .istore 8, 0), (142, .iload 6, 0), (144, .iconst 1, 0), (145, .if_icmp .eq (10), 0), (148, .iload 8, 0), (150, .iload 5, 0), (152, .if_icmp .ne (7), 0), (155, .iconst 1, 0), (156, .goto (4), 0), (159, .iconst 0, 0), (160, .istore 7, 0), (162, .iload 6, 0)]
def kc_Mod_rises_3 : mv_K := [(164, .iload 7, 0), (166, .ifCond .eq (7), 0), (169, .iconst 1, 0), (170, .goto (4), 0), (173, .iconst 0, 0), (174, .iadd, 0), (175, .istore 6, 0), (177, .iload 8, 0), (179, .istore 5, 0), (181, .aload_n 0, 0), (182, .aload_n 0, 0), (183, .getfield 13, 403), (186, .iload_n 2, 0), (187, .invokevirtual 104, 124), (190, .istore 4, 0), (192, .goto (-109), 0), (195, .iload 6, 0), (197, .ireturn, 0)]
def kc_Mod_rises : mv_K := kc_Mod_rises_0 ++ (kc_Mod_rises_1 ++ (kc_Mod_rises_2 ++ (kc_Mod_rises_3)))
def kc_Mod_lastLine : mv_K := [(0, .aload_n 0, 0), (1, .iload_n 1, 0), (2, .aload_n 0, 0), (3, .iconst 0, 0), (4, .iaload, 0), (5, .invokestatic 73, 122), (8, .ireturn, 0)]
def kc_Mod_take : mv_K := [(0, .aload_n 0, 0), (1, .invokevirtual 126, 113), (4, .sipush (-9999), 0), (7, .if_icmp .ne (11), 0), (10, .aload_n 0, 0), (11, .aload_n 0, 0), (12, .getfield 13, 403), (15, .invokevirtual 181, 146), (18, .aload_n 0, 0), (19, .aload_n 0, 0), (20, .invokevirtual 126, 113), (23, .sipush (-9999), 0), (26, .if_icmp .ne (18), 0), (29, .aload_n 0, 0), (30, .aload_n 0, 0), (31, .getfield 13, 403), (34, .invokevirtual 185, 147), (37, .ifCond .eq (7), 0), (40, .iconst 0, 0), (41, .goto (4), 0), (44, .iconst 1, 0), (45, .invokevirtual 122, 110), (48, .ifCond .eq (5), 0), (51, .iconst 0, 0), (52, .ireturn, 0), (53, .aload_n 0, 0), (54, .invokevirtual 189, 150), (57, .aload_n 0, 0), (58, .aload_n 0, 0), (59, .getfield 13, 403), (62, .invokevirtual 192, 152), (65, .ireturn, 0)]
def kc_Mod_layText : mv_K := [(0, .aload_n 1, 0), (1, .iconst 0, 0), (2, .iaload, 0), (3, .invokestatic 67, 116), (6, .istore_n 2, 0), (7, .aload_n 1, 0), (8, .iload_n 2, 0), (9, .aload_n 0, 0), (10, .getfield 101, 402), (13, .iastore, 0), (14, .aload_n 1, 0), (15, .iload_n 2, 0), (16, .iconst 1, 0), (17, .iadd, 0), (18, .sipush (-9999), 0), (21, .iastore, 0), (22, .iconst 0, 0), (23, .istore_n 3, 0), (24, .iload_n 3, 0), (25, .aload_n 0, 0), (26, .getfield 101, 402), (29, .if_icmp .ge (28), 0), (32, .iload_n 3, 0), (33, .bipush (40), 0), (35, .if_icmp .ge (22), 0), (38, .aload_n 1, 0), (39, .iload_n 2, 0), (40, .iconst 2, 0), (41, .iadd, 0), (42, .iload_n 3, 0), (43, .iadd, 0), (44, .aload_n 0, 0), (45, .getfield 7, 401), (48, .iload_n 3, 0), (49, .iaload, 0), (50, .iastore, 0), (51, .iinc 3 (1), 0), (54, .goto (-30), 0), (57, .return_, 0)]
def kc_Mod_canSettle : mv_K := [(0, .aload_n 1, 0), (1, .iconst 0, 0), (2, .iaload, 0), (3, .bipush (24), 0), (5, .if_icmp .ge (29), 0), (8, .aload_n 1, 0), (9, .iconst 1, 0), (10, .iaload, 0), (11, .bipush (12), 0), (13, .if_icmp .lt (17), 0), (16, .aload_n 0, 0), (17, .aload_n 1, 0), (18, .aload_n 1, 0), (19, .iconst 0, 0), (20, .iaload, 0), (21, .invokevirtual 94, 148), (24, .sipush (-9999), 0), (27, .if_icmp .eq (7), 0), (30, .iconst 1, 0), (31, .goto (4), 0), (34, .iconst 0, 0), (35, .ireturn, 0)]
def kc_Mod_templateFor : mv_K := [(0, .iconst 0, 0), (1, .istore_n 3, 0), (2, .iload_n 3, 0), (3, .aload_n 1, 0), (4, .iconst 1, 0), (5, .iaload, 0), (6, .if_icmp .ge (21), 0), (9, .aload_n 0, 0), (10, .aload_n 1, 0), (11, .iload_n 2, 0), (12, .iload_n 3, 0), (13, .invokevirtual 91, 149), (16, .ifCond .eq (5), 0), (19, .iload_n 3, 0), (20, .ireturn, 0), (21, .iinc 3 (1), 0), (24, .goto (-22), 0), (27, .sipush (-9999), 0), (30, .ireturn, 0)]
def kc_Mod_fits_0 : mv_K := [(0, .aload_n 0, 0), (1, .aload_n 1, 0), (2, .iload_n 2, 0), (3, .iconst 0, 0), (4, .invokevirtual 77, 123), (7, .istore 4, 0), (9, .iload 4, 0), (11, .aload_n 1, 0), (12, .iload_n 3, 0), (13, .invokestatic 51, 119), (16, .iaload, 0), (17, .if_icmp .eq (5), 0), (20, .iconst 0, 0), (21, .ireturn, 0), (22, .aload_n 0, 0), (23, .aload_n 1, 0), (24, .aload_n 1, 0), (25, .iload_n 3, 0), (26, .invokestatic 80, 129), (29, .bipush (12), 0), (31, .invokevirtual 77, 123), (34, .pop, 0), (35, .iconst 0, 0), (36, .istore 5, 0), (38, .iload 5, 0), (40, .iload 4, 0), (42, .if_icmp .ge (108), 0), (45, .aload_n 1, 0), (46, .iload_n 3, 0), (47, .iload 5, 0)]
def kc_Mod_fits_1 : mv_K := [(49, .invokestatic 84, 120), (52, .istore 6, 0), (54, .iload 6, 0), (56, .iconst 3, 0), (57, .if_icmp .ne (22), 0), (60, .aload_n 0, 0), (61, .getfield 38, 412), (64, .iload 5, 0), (66, .iaload, 0), (67, .iconst 3, 0), (68, .if_icmp .ne (7), 0), (71, .iconst 1, 0), (72, .goto (63), 0), (75, .iconst 0, 0), (76, .goto (59), 0), (79, .iload 6, 0), (81, .iconst 4, 0), (82, .if_icmp .ne (21), 0), (85, .aload_n 0, 0), (86, .getfield 38, 412), (89, .iload 5, 0), (91, .iaload, 0), (92, .ifCond .ne (7), 0), (95, .iconst 1, 0), (96, .goto (39), 0), (99, .iconst 0, 0), (100, .goto (35), 0), (103, .aload_n 0, 0), (104, .getfield 38, 412), (107, .iload 5, 0)]
def kc_Mod_fits_2 : mv_K := [(109, .iaload, 0), (110, .iload 6, 0), (112, .if_icmp .ne (22), 0), (115, .aload_n 0, 0), (116, .aload_n 1, 0), (117, .iload 5, 0), (119, .bipush (12), 0), (121, .iload 5, 0), (123, .iadd, 0), (124, .invokevirtual 87, 126), (127, .ifCond .eq (7), 0), (130, .iconst 1, 0), (131, .goto (4), 0), (134, .iconst 0, 0), (135, .istore 7, 0), (137, .iload 7, 0), (139, .ifCond .ne (5), 0), (142, .iconst 0, 0), (143, .ireturn, 0), (144, .iinc 5 (1), 0), (147, .goto (-109), 0), (150, .iconst 1, 0), (151, .ireturn, 0)]
def kc_Mod_fits : mv_K := kc_Mod_fits_0 ++ (kc_Mod_fits_1 ++ (kc_Mod_fits_2))
def kc_Mod_remember : mv_K := [(0, .aload_n 0, 0), (1, .getfield 44, 407), (4, .bipush (14), 0), (6, .if_icmp .ne (44), 0), (9, .iconst 0, 0), (10, .istore_n 1, 0), (11, .iload_n 1, 0), (12, .sipush (15873), 0), (15, .if_icmp .ge (25), 0), (18, .aload_n 0, 0), (19, .getfield 22, 406), (22, .iload_n 1, 0), (23, .aload_n 0, 0), (24, .getfield 22, 406), (27, .iload_n 1, 0), (28, .sipush (1221), 0), (31, .iadd, 0), (32, .iaload, 0), (33, .iastore, 0), (34, .iinc 1 (1), 0), (37, .goto (-26), 0), (40, .aload_n 0, 0), (41, .dup, 0), (42, .getfield 44, 407), (45, .iconst 1, 0), (46, .isub, 0), (47, .putfield 44, 407), (50, .aload_n 0, 0), (51, .getfield 13, 403), (54, .iconst 0, 0), (55, .aload_n 0, 0), (56, .getfield 22, 406), (59, .sipush (1221), 0), (62, .aload_n 0, 0), (63, .getfield 44, 407), (66, .imul, 0), (67, .invokestatic 177, 151), (70, .aload_n 0, 0), (71, .dup, 0), (72, .getfield 44, 407), (75, .iconst 1, 0), (76, .iadd, 0), (77, .putfield 44, 407), (80, .return_, 0)]
def kc_Mod_copyLog : mv_K := [(0, .iconst 0, 0), (1, .istore 4, 0), (3, .iload 4, 0), (5, .sipush (1221), 0), (8, .if_icmp .ge (21), 0), (11, .aload_n 2, 0), (12, .iload_n 3, 0), (13, .iload 4, 0), (15, .iadd, 0), (16, .aload_n 0, 0), (17, .iload_n 1, 0), (18, .iload 4, 0), (20, .iadd, 0), (21, .iaload, 0), (22, .iastore, 0), (23, .iinc 4 (1), 0), (26, .goto (-23), 0), (29, .return_, 0)]
def kc_Mod_settle : mv_K := [(0, .aload_n 1, 0), (1, .iconst 0, 0), (2, .iaload, 0), (3, .istore_n 2, 0), (4, .aload_n 0, 0), (5, .aload_n 1, 0), (6, .iload_n 2, 0), (7, .invokevirtual 94, 148), (10, .istore_n 3, 0), (11, .iload_n 3, 0), (12, .sipush (-9999), 0), (15, .if_icmp .ne (13), 0), (18, .aload_n 1, 0), (19, .iconst 1, 0), (20, .iaload, 0), (21, .istore_n 3, 0), (22, .aload_n 0, 0), (23, .aload_n 1, 0), (24, .iload_n 2, 0), (25, .invokevirtual 97, 153), (28, .aload_n 1, 0), (29, .iload_n 2, 0), (30, .invokestatic 67, 116), (33, .iconst 1, 0), (34, .iadd, 0), (35, .iload_n 3, 0), (36, .iastore, 0), (37, .aload_n 1, 0), (38, .iconst 0, 0), (39, .dup2, 0), (40, .iaload, 0), (41, .iconst 1, 0), (42, .iadd, 0), (43, .iastore, 0), (44, .iload_n 3, 0), (45, .ireturn, 0)]
def kc_Mod_addTemplate : mv_K := [(0, .aload_n 1, 0), (1, .iconst 1, 0), (2, .iaload, 0), (3, .istore_n 3, 0), (4, .aload_n 0, 0), (5, .aload_n 1, 0), (6, .iload_n 2, 0), (7, .iconst 0, 0), (8, .invokevirtual 77, 123), (11, .istore 4, 0), (13, .aload_n 1, 0), (14, .iload_n 3, 0), (15, .invokestatic 51, 119), (18, .iload 4, 0), (20, .iastore, 0), (21, .iconst 0, 0), (22, .istore 5, 0), (24, .iload 5, 0), (26, .iload 4, 0), (28, .if_icmp .ge (27), 0), (31, .aload_n 1, 0), (32, .iload_n 3, 0), (33, .invokestatic 51, 119), (36, .iconst 1, 0), (37, .iadd, 0), (38, .iload 5, 0), (40, .iadd, 0), (41, .aload_n 0, 0), (42, .getfield 38, 412), (45, .iload 5, 0), (47, .iaload, 0), (48, .iastore, 0), (49, .iinc 5 (1), 0), (52, .goto (-28), 0), (55, .aload_n 1, 0), (56, .iconst 1, 0), (57, .dup2, 0), (58, .iaload, 0), (59, .iconst 1, 0), (60, .iadd, 0), (61, .iastore, 0), (62, .return_, 0)]
def kc_Mod_again : mv_K := [(0, .aload_n 0, 0), (1, .aload_n 0, 0), (2, .getfield 13, 403), (5, .iload_n 1, 0), (6, .invokestatic 148, 134), (9, .ifCond .ne (7), 0), (12, .iconst 1, 0), (13, .goto (19), 0), (16, .aload_n 0, 0), (17, .getfield 13, 403), (20, .iconst 0, 0), (21, .iaload, 0), (22, .bipush (24), 0), (24, .if_icmp .ne (7), 0), (27, .iconst 2, 0), (28, .goto (4), 0), (31, .iconst 0, 0), (32, .invokevirtual 122, 110), (35, .ifCond .eq (5), 0), (38, .iconst 0, 0), (39, .ireturn, 0), (40, .aload_n 0, 0), (41, .invokevirtual 189, 150), (44, .aload_n 0, 0), (45, .aload_n 0, 0), (46, .getfield 13, 403), (49, .iload_n 1, 0), (50, .invokevirtual 198, 155), (53, .ireturn, 0)]
def kc_Mod_againOn : mv_K := [(0, .aload_n 1, 0), (1, .iload_n 2, 0), (2, .invokestatic 195, 156), (5, .aload_n 0, 0), (6, .aload_n 1, 0), (7, .invokevirtual 192, 152), (10, .pop, 0), (11, .aload_n 1, 0), (12, .iconst 0, 0), (13, .iaload, 0), (14, .iconst 1, 0), (15, .isub, 0), (16, .ireturn, 0)]
def kc_Mod_layAgain : mv_K := [(0, .aload_n 0, 0), (1, .iconst 0, 0), (2, .iaload, 0), (3, .invokestatic 67, 116), (6, .istore_n 2, 0), (7, .iconst 0, 0), (8, .istore_n 3, 0), (9, .iload_n 3, 0), (10, .bipush (42), 0), (12, .if_icmp .ge (22), 0), (15, .aload_n 0, 0), (16, .iload_n 2, 0), (17, .iload_n 3, 0), (18, .iadd, 0), (19, .aload_n 0, 0), (20, .iload_n 1, 0), (21, .invokestatic 67, 116), (24, .iload_n 3, 0), (25, .iadd, 0), (26, .iaload, 0), (27, .iastore, 0), (28, .iinc 3 (1), 0), (31, .goto (-22), 0), (34, .return_, 0)]
def kc_Mod_remove : mv_K := [(0, .aload_n 0, 0), (1, .aload_n 0, 0), (2, .getfield 13, 403), (5, .iload_n 1, 0), (6, .invokestatic 148, 134), (9, .ifCond .eq (7), 0), (12, .iconst 0, 0), (13, .goto (4), 0), (16, .iconst 1, 0), (17, .invokevirtual 122, 110), (20, .ifCond .eq (5), 0), (23, .iconst 0, 0), (24, .ireturn, 0), (25, .aload_n 0, 0), (26, .invokevirtual 189, 150), (29, .aload_n 0, 0), (30, .getfield 13, 403), (33, .iload_n 1, 0), (34, .invokestatic 204, 158), (37, .ireturn, 0)]
def kc_Mod_removeOn : mv_K := [(0, .aload_n 0, 0), (1, .iload_n 1, 0), (2, .invokestatic 67, 116), (5, .iconst 1, 0), (6, .iadd, 0), (7, .iaload, 0), (8, .istore_n 2, 0), (9, .aload_n 0, 0), (10, .iconst 0, 0), (11, .dup2, 0), (12, .iaload, 0), (13, .iconst 1, 0), (14, .isub, 0), (15, .iastore, 0), (16, .iload_n 1, 0), (17, .invokestatic 67, 116), (20, .istore_n 3, 0), (21, .iload_n 3, 0), (22, .aload_n 0, 0), (23, .iconst 0, 0), (24, .iaload, 0), (25, .invokestatic 67, 116), (28, .if_icmp .ge (18), 0), (31, .aload_n 0, 0), (32, .iload_n 3, 0), (33, .aload_n 0, 0), (34, .iload_n 3, 0), (35, .bipush (42), 0), (37, .iadd, 0), (38, .iaload, 0), (39, .iastore, 0), (40, .iinc 3 (1), 0), (43, .goto (-22), 0), (46, .aload_n 0, 0), (47, .iload_n 2, 0), (48, .aload_n 0, 0), (49, .iconst 0, 0), (50, .iaload, 0), (51, .invokestatic 154, 135), (54, .ifCond .ne (8), 0), (57, .aload_n 0, 0), (58, .iload_n 2, 0), (59, .invokestatic 201, 159), (62, .aload_n 0, 0), (63, .iconst 1, 0), (64, .iaload, 0), (65, .ireturn, 0)]
def kc_Mod_cutTemplate : mv_K := [(0, .aload_n 0, 0), (1, .iconst 1, 0), (2, .dup2, 0), (3, .iaload, 0), (4, .iconst 1, 0), (5, .isub, 0), (6, .iastore, 0), (7, .iload_n 1, 0), (8, .invokestatic 51, 119), (11, .istore_n 2, 0), (12, .iload_n 2, 0), (13, .aload_n 0, 0), (14, .iconst 1, 0), (15, .iaload, 0), (16, .invokestatic 51, 119), (19, .if_icmp .ge (18), 0), (22, .aload_n 0, 0), (23, .iload_n 2, 0), (24, .aload_n 0, 0), (25, .iload_n 2, 0), (26, .bipush (13), 0), (28, .iadd, 0), (29, .iaload, 0), (30, .iastore, 0), (31, .iinc 2 (1), 0), (34, .goto (-22), 0), (37, .iconst 0, 0), (38, .istore_n 2, 0), (39, .iload_n 2, 0), (40, .aload_n 0, 0), (41, .iconst 0, 0), (42, .iaload, 0), (43, .if_icmp .ge (37), 0), (46, .aload_n 0, 0), (47, .iload_n 2, 0), (48, .invokestatic 67, 116), (51, .iconst 1, 0), (52, .iadd, 0), (53, .dup2, 0), (54, .iaload, 0), (55, .aload_n 0, 0), (56, .iload_n 2, 0), (57, .invokestatic 67, 116), (60, .iconst 1, 0), (61, .iadd, 0), (62, .iaload, 0), (63, .iload_n 1, 0), (64, .if_icmp .le (7), 0), (67, .iconst 1, 0), (68, .goto (4), 0), (71, .iconst 0, 0), (72, .isub, 0), (73, .iastore, 0), (74, .iinc 2 (1), 0), (77, .goto (-38), 0), (80, .return_, 0)]
def kc_Mod_learn : mv_K := [(0, .aload_n 0, 0), (1, .invokevirtual 189, 150), (4, .aload_n 0, 0), (5, .aload_n 0, 0), (6, .getfield 13, 403), (9, .invokevirtual 210, 161), (12, .ireturn, 0)]
def kc_Mod_learnOn_0 : mv_K := [(0, .iconst 0, 0), (1, .istore_n 2, 0), (2, .iload_n 2, 0), (3, .aload_n 1, 0), (4, .iconst 1, 0), (5, .iaload, 0), (6, .if_icmp .ge (130), 0), (9, .iload_n 2, 0), (10, .iconst 1, 0), (11, .iadd, 0), (12, .istore_n 3, 0), (13, .iload_n 3, 0), (14, .aload_n 1, 0), (15, .iconst 1, 0), (16, .iaload, 0), (17, .if_icmp .ge (113), 0), (20, .aload_n 0, 0), (21, .aload_n 1, 0), (22, .iload_n 2, 0), (23, .iload_n 3, 0), (24, .invokevirtual 207, 162), (27, .istore 4, 0), (29, .iload 4, 0), (31, .sipush (-9999), 0), (34, .if_icmp .eq (90), 0), (37, .iload 4, 0), (39, .aload_n 1, 0), (40, .iload_n 2, 0), (41, .invokestatic 51, 119), (44, .iaload, 0)]
def kc_Mod_learnOn_1 : mv_K := [(45, .if_icmp .ge (15), 0), (48, .aload_n 1, 0), (49, .iload_n 2, 0), (50, .invokestatic 51, 119), (53, .iconst 1, 0), (54, .iadd, 0), (55, .iload 4, 0), (57, .iadd, 0), (58, .iconst 4, 0), (59, .iastore, 0), (60, .iconst 0, 0), (61, .istore 5, 0), (63, .iload 5, 0), (65, .aload_n 1, 0), (66, .iconst 0, 0), (67, .iaload, 0), (68, .if_icmp .ge (44), 0), (71, .aload_n 1, 0), (72, .iload 5, 0), (74, .invokestatic 67, 116), (77, .iconst 1, 0), (78, .iadd, 0), (79, .aload_n 1, 0), (80, .iload 5, 0), (82, .invokestatic 67, 116), (85, .iconst 1, 0), (86, .iadd, 0), (87, .iaload, 0), (88, .iload_n 3, 0), (89, .if_icmp .ne (7), 0)]
def kc_Mod_learnOn_2 : mv_K := [(92, .iload_n 2, 0), (93, .goto (12), 0), (96, .aload_n 1, 0), (97, .iload 5, 0), (99, .invokestatic 67, 116), (102, .iconst 1, 0), (103, .iadd, 0), (104, .iaload, 0), (105, .iastore, 0), (106, .iinc 5 (1), 0), (109, .goto (-46), 0), (112, .aload_n 1, 0), (113, .iload_n 3, 0), (114, .invokestatic 201, 159), (117, .bipush (100), 0), (119, .iload_n 2, 0), (120, .imul, 0), (121, .iload_n 3, 0), (122, .iadd, 0), (123, .ireturn, 0), (124, .iinc 3 (1), 0), (127, .goto (-114), 0), (130, .iinc 2 (1), 0), (133, .goto (-131), 0), (136, .sipush (-9999), 0), (139, .ireturn, 0)]
def kc_Mod_learnOn : mv_K := kc_Mod_learnOn_0 ++ (kc_Mod_learnOn_1 ++ (kc_Mod_learnOn_2))
def kc_Mod_partsAt_0 : mv_K := [(0, .aload_n 1, 0), (1, .iload_n 2, 0), (2, .invokestatic 51, 119), (5, .iaload, 0), (6, .istore 4, 0), (8, .iload 4, 0), (10, .aload_n 1, 0), (11, .iload_n 3, 0), (12, .invokestatic 51, 119), (15, .iaload, 0), (16, .if_icmp .eq (7), 0), (19, .sipush (-9999), 0), (22, .ireturn, 0), (23, .aload_n 0, 0), (24, .aload_n 1, 0), (25, .aload_n 1, 0), (26, .iload_n 2, 0), (27, .invokestatic 80, 129), (30, .iconst 0, 0), (31, .invokevirtual 77, 123), (34, .pop, 0), (35, .aload_n 0, 0), (36, .aload_n 1, 0), (37, .aload_n 1, 0), (38, .iload_n 3, 0), (39, .invokestatic 80, 129), (42, .bipush (12), 0), (44, .invokevirtual 77, 123), (47, .pop, 0), (48, .iload 4, 0)]
def kc_Mod_partsAt_1 : mv_K := [(50, .istore 5, 0), (52, .iconst 0, 0), (53, .istore 6, 0), (55, .iload 6, 0), (57, .iload 4, 0), (59, .if_icmp .ge (126), 0), (62, .aload_n 1, 0), (63, .iload_n 2, 0), (64, .iload 6, 0), (66, .invokestatic 84, 120), (69, .istore 7, 0), (71, .aload_n 1, 0), (72, .iload_n 3, 0), (73, .iload 6, 0), (75, .invokestatic 84, 120), (78, .istore 8, 0), (80, .iload 7, 0), (82, .iload 8, 0), (84, .if_icmp .ne (28), 0), (87, .iload 7, 0), (89, .iconst 3, 0), (90, .if_icmp .ge (18), 0), (93, .aload_n 0, 0), (94, .aload_n 1, 0), (95, .iload 6, 0), (97, .bipush (12), 0), (99, .iload 6, 0), (101, .iadd, 0), (102, .invokevirtual 87, 126), (105, .ifCond .eq (7), 0)]
def kc_Mod_partsAt_2 : mv_K := [(108, .iconst 1, 0), (109, .goto (4), 0), (112, .iconst 0, 0), (113, .istore 9, 0), (115, .iload 7, 0), (117, .ifCond .eq (9), 0), (120, .iload 7, 0), (122, .iconst 4, 0), (123, .if_icmp .ne (18), 0), (126, .iload 8, 0), (128, .ifCond .eq (9), 0), (131, .iload 8, 0), (133, .iconst 4, 0), (134, .if_icmp .ne (7), 0), (137, .iconst 1, 0), (138, .goto (4), 0), (141, .iconst 0, 0), (142, .istore 10, 0), (144, .iload 9, 0), (146, .ifCond .ne (19), 0), (149, .iload 10, 0), (151, .ifCond .eq (10), 0), (154, .iload 5, 0), (156, .iload 4, 0), (158, .if_icmp .ge (7), 0), (161, .sipush (-9999), 0), (164, .ireturn, 0), (165, .iload 9, 0), (167, .ifCond .eq (8), 0), (170, .iload 5, 0)]
def kc_Mod_partsAt_3 : mv_K := [(172, .goto (5), 0), (175, .iload 6, 0), (177, .istore 5, 0), (179, .iinc 6 (1), 0), (182, .goto (-127), 0), (185, .iload 5, 0), (187, .ireturn, 0)]
def kc_Mod_partsAt : mv_K := kc_Mod_partsAt_0 ++ (kc_Mod_partsAt_1 ++ (kc_Mod_partsAt_2 ++ (kc_Mod_partsAt_3)))
def kc_Mod_learnAll : mv_K := [(0, .aload_n 0, 0), (1, .invokevirtual 189, 150), (4, .aload_n 0, 0), (5, .aload_n 0, 0), (6, .getfield 13, 403), (9, .invokevirtual 213, 164), (12, .ireturn, 0)]
def kc_Mod_learnAllOn : mv_K := [(0, .iconst 1, 0), (1, .istore_n 2, 0), (2, .iload_n 2, 0), (3, .ifCond .eq (23), 0), (6, .aload_n 0, 0), (7, .aload_n 1, 0), (8, .invokevirtual 210, 161), (11, .sipush (-9999), 0), (14, .if_icmp .eq (7), 0), (17, .iconst 1, 0), (18, .goto (4), 0), (21, .iconst 0, 0), (22, .istore_n 2, 0), (23, .goto (-21), 0), (26, .aload_n 1, 0), (27, .iconst 1, 0), (28, .iaload, 0), (29, .ireturn, 0)]
def kc_Mod_open : mv_K := [(0, .aload_n 0, 0), (1, .aload_n 0, 0), (2, .getfield 13, 403), (5, .iload_n 1, 0), (6, .iload_n 2, 0), (7, .invokestatic 165, 141), (10, .ifCond .ne (7), 0), (13, .iconst 1, 0), (14, .goto (20), 0), (17, .aload_n 0, 0), (18, .getfield 13, 403), (21, .iload_n 1, 0), (22, .iload_n 2, 0), (23, .invokestatic 84, 120), (26, .ifCond .ne (7), 0), (29, .iconst 0, 0), (30, .goto (4), 0), (33, .iconst 2, 0), (34, .invokevirtual 122, 110), (37, .ifCond .eq (5), 0), (40, .iconst 0, 0), (41, .ireturn, 0), (42, .aload_n 0, 0), (43, .invokevirtual 189, 150), (46, .aload_n 0, 0), (47, .getfield 13, 403), (50, .iload_n 1, 0), (51, .invokestatic 51, 119), (54, .iconst 1, 0), (55, .iadd, 0), (56, .iload_n 2, 0), (57, .iadd, 0), (58, .iconst 4, 0), (59, .iastore, 0), (60, .aload_n 0, 0), (61, .aload_n 0, 0), (62, .getfield 13, 403), (65, .iload_n 1, 0), (66, .invokevirtual 117, 128), (69, .ireturn, 0)]
def kc_Mod_forget : mv_K := [(0, .aload_n 0, 0), (1, .aload_n 0, 0), (2, .aload_n 0, 0), (3, .getfield 13, 403), (6, .invokevirtual 216, 167), (9, .ifCond .eq (7), 0), (12, .iconst 0, 0), (13, .goto (4), 0), (16, .iconst 1, 0), (17, .invokevirtual 122, 110), (20, .ifCond .eq (5), 0), (23, .iconst 0, 0), (24, .ireturn, 0), (25, .aload_n 0, 0), (26, .invokevirtual 189, 150), (29, .aload_n 0, 0), (30, .getfield 19, 405), (33, .iconst 0, 0), (34, .aload_n 0, 0), (35, .getfield 13, 403), (38, .iconst 0, 0), (39, .invokestatic 177, 151), (42, .aload_n 0, 0), (43, .getfield 13, 403), (46, .iconst 1, 0), (47, .iaload, 0), (48, .ireturn, 0)]
def kc_Mod_anew : mv_K := [(0, .aload_n 0, 0), (1, .getfield 19, 405), (4, .iconst 0, 0), (5, .iconst 0, 0), (6, .iastore, 0), (7, .aload_n 0, 0), (8, .getfield 19, 405), (11, .iconst 1, 0), (12, .iconst 0, 0), (13, .iastore, 0), (14, .iconst 0, 0), (15, .istore_n 2, 0), (16, .iload_n 2, 0), (17, .aload_n 1, 0), (18, .iconst 0, 0), (19, .iaload, 0), (20, .if_icmp .ge (64), 0), (23, .iconst 0, 0), (24, .istore_n 3, 0), (25, .iload_n 3, 0), (26, .bipush (42), 0), (28, .if_icmp .ge (28), 0), (31, .aload_n 0, 0), (32, .getfield 19, 405), (35, .iload_n 2, 0), (36, .invokestatic 67, 116), (39, .iload_n 3, 0), (40, .iadd, 0), (41, .aload_n 1, 0), (42, .iload_n 2, 0), (43, .invokestatic 67, 116), (46, .iload_n 3, 0), (47, .iadd, 0), (48, .iaload, 0), (49, .iastore, 0), (50, .iinc 3 (1), 0), (53, .goto (-28), 0), (56, .aload_n 0, 0), (57, .aload_n 0, 0), (58, .getfield 19, 405), (61, .invokevirtual 185, 147), (64, .ifCond .ne (5), 0), (67, .iconst 0, 0), (68, .ireturn, 0), (69, .aload_n 0, 0), (70, .aload_n 0, 0), (71, .getfield 19, 405), (74, .invokevirtual 192, 152), (77, .pop, 0), (78, .iinc 2 (1), 0), (81, .goto (-65), 0), (84, .iconst 1, 0), (85, .ireturn, 0)]
def kc_Mod_undo : mv_K := [(0, .aload_n 0, 0), (1, .aload_n 0, 0), (2, .getfield 44, 407), (5, .ifCond .ne (7), 0), (8, .iconst 1, 0), (9, .goto (4), 0), (12, .iconst 0, 0), (13, .invokevirtual 122, 110), (16, .ifCond .eq (5), 0), (19, .iconst 0, 0), (20, .ireturn, 0), (21, .aload_n 0, 0), (22, .dup, 0), (23, .getfield 44, 407), (26, .iconst 1, 0), (27, .isub, 0), (28, .putfield 44, 407), (31, .aload_n 0, 0), (32, .getfield 22, 406), (35, .sipush (1221), 0), (38, .aload_n 0, 0), (39, .getfield 44, 407), (42, .imul, 0), (43, .aload_n 0, 0), (44, .getfield 13, 403), (47, .iconst 0, 0), (48, .invokestatic 177, 151), (51, .aload_n 0, 0), (52, .getfield 44, 407), (55, .ireturn, 0)]
def kc_Mod_which : mv_K := [(0, .aload_n 0, 0), (1, .invokevirtual 126, 113), (4, .sipush (-9999), 0), (7, .if_icmp .eq (7), 0), (10, .sipush (-9999), 0), (13, .ireturn, 0), (14, .aload_n 0, 0), (15, .getfield 13, 403), (18, .iconst 0, 0), (19, .aload_n 0, 0), (20, .getfield 16, 404), (23, .iconst 0, 0), (24, .invokestatic 177, 151), (27, .aload_n 0, 0), (28, .aload_n 0, 0), (29, .getfield 16, 404), (32, .invokevirtual 181, 146), (35, .aload_n 0, 0), (36, .aload_n 0, 0), (37, .getfield 16, 404), (40, .aload_n 0, 0), (41, .getfield 16, 404), (44, .iconst 0, 0), (45, .iaload, 0), (46, .invokevirtual 94, 148), (49, .ireturn, 0)]
def kc_Mod_wouldCost : mv_K := [(0, .aload_n 0, 0), (1, .invokevirtual 126, 113), (4, .sipush (-9999), 0), (7, .if_icmp .eq (7), 0), (10, .sipush (-9999), 0), (13, .ireturn, 0), (14, .aload_n 0, 0), (15, .getfield 13, 403), (18, .iconst 0, 0), (19, .aload_n 0, 0), (20, .getfield 16, 404), (23, .iconst 0, 0), (24, .invokestatic 177, 151), (27, .aload_n 0, 0), (28, .aload_n 0, 0), (29, .getfield 16, 404), (32, .invokevirtual 181, 146), (35, .aload_n 0, 0), (36, .aload_n 0, 0), (37, .getfield 16, 404), (40, .invokevirtual 192, 152), (43, .pop, 0), (44, .aload_n 0, 0), (45, .aload_n 0, 0), (46, .getfield 16, 404), (49, .aload_n 0, 0), (50, .getfield 16, 404), (53, .iconst 0, 0), (54, .iaload, 0), (55, .iconst 1, 0), (56, .isub, 0), (57, .invokevirtual 114, 118), (60, .ireturn, 0)]
def kc_Mod_saves : mv_K := [(0, .aload_n 0, 0), (1, .getfield 13, 403), (4, .iconst 0, 0), (5, .aload_n 0, 0), (6, .getfield 16, 404), (9, .iconst 0, 0), (10, .invokestatic 177, 151), (13, .aload_n 0, 0), (14, .aload_n 0, 0), (15, .getfield 16, 404), (18, .invokevirtual 210, 161), (21, .sipush (-9999), 0), (24, .if_icmp .ne (7), 0), (27, .sipush (-9999), 0), (30, .ireturn, 0), (31, .aload_n 0, 0), (32, .aload_n 0, 0), (33, .getfield 13, 403), (36, .invokevirtual 135, 117), (39, .aload_n 0, 0), (40, .aload_n 0, 0), (41, .getfield 13, 403), (44, .invokevirtual 139, 127), (47, .iadd, 0), (48, .aload_n 0, 0), (49, .aload_n 0, 0), (50, .getfield 16, 404), (53, .invokevirtual 135, 117), (56, .isub, 0), (57, .aload_n 0, 0), (58, .aload_n 0, 0), (59, .getfield 16, 404), (62, .invokevirtual 139, 127), (65, .isub, 0), (66, .ireturn, 0)]
def kc_Mod_next : mv_K := [(0, .aload_n 0, 0), (1, .aload_n 0, 0), (2, .getfield 13, 403), (5, .iload_n 1, 0), (6, .invokestatic 160, 139), (9, .ifCond .ne (7), 0), (12, .iconst 1, 0), (13, .goto (12), 0), (16, .iload_n 2, 0), (17, .ifCond .ge (7), 0), (20, .iconst 2, 0), (21, .goto (4), 0), (24, .iconst 0, 0), (25, .invokevirtual 122, 110), (28, .ifCond .eq (5), 0), (31, .iconst 0, 0), (32, .ireturn, 0), (33, .aload_n 0, 0), (34, .iload_n 1, 0), (35, .invokevirtual 230, 173), (38, .iload_n 2, 0), (39, .aload_n 0, 0), (40, .getfield 219, 415), (43, .if_icmp .ge (12), 0), (46, .aload_n 0, 0), (47, .getfield 41, 414), (50, .iload_n 2, 0), (51, .iaload, 0), (52, .goto (6), 0), (55, .sipush (-9999), 0), (58, .ireturn, 0)]
def kc_Mod_layAhead_0 : mv_K := [(0, .aload_n 0, 0), (1, .getfield 13, 403), (4, .iload_n 1, 0), (5, .invokestatic 174, 144), (8, .istore_n 2, 0), (9, .aload_n 0, 0), (10, .getfield 13, 403), (13, .iload_n 1, 0), (14, .iload_n 2, 0), (15, .invokestatic 73, 122), (18, .istore_n 3, 0), (19, .aload_n 0, 0), (20, .aload_n 0, 0), (21, .getfield 13, 403), (24, .iload_n 2, 0), (25, .iconst 0, 0), (26, .invokevirtual 77, 123), (29, .istore 4, 0), (31, .iload_n 3, 0), (32, .sipush (-9999), 0), (35, .if_icmp .eq (15), 0), (38, .aload_n 0, 0), (39, .aload_n 0, 0), (40, .getfield 13, 403), (43, .iload_n 3, 0), (44, .bipush (12), 0), (46, .invokevirtual 77, 123), (49, .pop, 0), (50, .aload_n 0, 0), (51, .iconst 0, 0)]
def kc_Mod_layAhead_1 : mv_K := [(52, .putfield 219, 415), (55, .iconst 0, 0), (56, .istore 5, 0), (58, .iload 5, 0), (60, .iload 4, 0), (62, .if_icmp .ge (174), 0), (65, .aload_n 0, 0), (66, .getfield 38, 412), (69, .iload 5, 0), (71, .iaload, 0), (72, .iconst 3, 0), (73, .if_icmp .ne (102), 0), (76, .aload_n 0, 0), (77, .aload_n 0, 0), (78, .getfield 13, 403), (81, .iload 5, 0), (83, .invokevirtual 104, 124), (86, .istore 6, 0), (88, .iload_n 3, 0), (89, .sipush (-9999), 0), (92, .if_icmp .ne (8), 0), (95, .iload 6, 0), (97, .goto (21), 0), (100, .iconst 2, 0), (101, .iload 6, 0), (103, .imul, 0), (104, .aload_n 0, 0), (105, .aload_n 0, 0), (106, .getfield 13, 403), (109, .bipush (12), 0)]
def kc_Mod_layAhead_2 : mv_K := [(111, .iload 5, 0), (113, .iadd, 0), (114, .invokevirtual 104, 124), (117, .isub, 0), (118, .istore 7, 0), (120, .iload 7, 0), (122, .ifCond .ge (7), 0), (125, .iconst 0, 0), (126, .goto (8), 0), (129, .iload 7, 0), (131, .ldc 222, 1000000), (133, .irem, 0), (134, .istore 7, 0), (136, .aload_n 0, 0), (137, .iload 7, 0), (139, .iload 7, 0), (141, .invokestatic 223, 174), (144, .aload_n 0, 0), (145, .getfield 35, 411), (148, .iload 5, 0), (150, .iaload, 0), (151, .if_icmp .le (11), 0), (154, .iload 7, 0), (156, .invokestatic 223, 174), (159, .goto (10), 0), (162, .aload_n 0, 0), (163, .getfield 35, 411), (166, .iload 5, 0), (168, .iaload, 0), (169, .invokevirtual 226, 175)]
def kc_Mod_layAhead_3 : mv_K := [(172, .goto (58), 0), (175, .iconst 0, 0), (176, .istore 6, 0), (178, .iload 6, 0), (180, .aload_n 0, 0), (181, .getfield 35, 411), (184, .iload 5, 0), (186, .iaload, 0), (187, .if_icmp .ge (43), 0), (190, .aload_n 0, 0), (191, .getfield 41, 414), (194, .aload_n 0, 0), (195, .getfield 219, 415), (198, .aload_n 0, 0), (199, .getfield 13, 403), (202, .aload_n 0, 0), (203, .getfield 32, 410), (206, .iload 5, 0), (208, .iaload, 0), (209, .iload 6, 0), (211, .iadd, 0), (212, .iaload, 0), (213, .iastore, 0), (214, .aload_n 0, 0), (215, .dup, 0), (216, .getfield 219, 415), (219, .iconst 1, 0), (220, .iadd, 0), (221, .putfield 219, 415), (224, .iinc 6 (1), 0)]
def kc_Mod_layAhead_4 : mv_K := [(227, .goto (-49), 0), (230, .iinc 5 (1), 0), (233, .goto (-175), 0), (236, .return_, 0)]
def kc_Mod_layAhead : mv_K := kc_Mod_layAhead_0 ++ (kc_Mod_layAhead_1 ++ (kc_Mod_layAhead_2 ++ (kc_Mod_layAhead_3 ++ (kc_Mod_layAhead_4))))
def kc_Mod_digitsOf : mv_K := [(0, .iconst 1, 0), (1, .istore_n 1, 0), (2, .iload_n 0, 0), (3, .bipush (10), 0), (5, .idiv, 0), (6, .istore_n 2, 0), (7, .iload_n 2, 0), (8, .ifCond .le (14), 0), (11, .iinc 1 (1), 0), (14, .iload_n 2, 0), (15, .bipush (10), 0), (17, .idiv, 0), (18, .istore_n 2, 0), (19, .goto (-12), 0), (22, .iload_n 1, 0), (23, .ireturn, 0)]
def kc_Mod_write : mv_K := [(0, .iconst 1, 0), (1, .istore_n 3, 0), (2, .iconst 1, 0), (3, .istore 4, 0), (5, .iload 4, 0), (7, .iload_n 2, 0), (8, .if_icmp .ge (14), 0), (11, .iload_n 3, 0), (12, .bipush (10), 0), (14, .imul, 0), (15, .istore_n 3, 0), (16, .iinc 4 (1), 0), (19, .goto (-14), 0), (22, .iload_n 3, 0), (23, .ifCond .le (39), 0), (26, .aload_n 0, 0), (27, .getfield 41, 414), (30, .aload_n 0, 0), (31, .getfield 219, 415), (34, .bipush (48), 0), (36, .iload_n 1, 0), (37, .iload_n 3, 0), (38, .idiv, 0), (39, .bipush (10), 0), (41, .irem, 0), (42, .iadd, 0), (43, .iastore, 0), (44, .aload_n 0, 0), (45, .dup, 0), (46, .getfield 219, 415), (49, .iconst 1, 0), (50, .iadd, 0), (51, .putfield 219, 415), (54, .iload_n 3, 0), (55, .bipush (10), 0), (57, .idiv, 0), (58, .istore_n 3, 0), (59, .goto (-37), 0), (62, .return_, 0)]
def kc_Mod_withValue_0 : mv_K := [(0, .aload_n 0, 0), (1, .iload_n 1, 0), (2, .i2l, 0), (3, .lconst 0, 0), (4, .ldc2_w 234, 999999), (7, .invokestatic 55, 109), (10, .ifCond .eq (7), 0), (13, .iconst 0, 0), (14, .goto (4), 0), (17, .iconst 1, 0), (18, .invokevirtual 122, 110), (21, .ifCond .eq (5), 0), (24, .iconst 0, 0), (25, .ireturn, 0), (26, .iconst 0, 0), (27, .istore_n 2, 0), (28, .iconst 0, 0), (29, .istore_n 3, 0), (30, .iload_n 3, 0), (31, .aload_n 0, 0), (32, .getfield 13, 403), (35, .iconst 0, 0), (36, .iaload, 0), (37, .if_icmp .ge (90), 0), (40, .aload_n 0, 0), (41, .aload_n 0, 0), (42, .getfield 13, 403), (45, .iload_n 3, 0), (46, .iconst 0, 0), (47, .invokevirtual 77, 123)]
def kc_Mod_withValue_1 : mv_K := [(50, .istore 4, 0), (52, .iconst 0, 0), (53, .istore 5, 0), (55, .iconst 0, 0), (56, .istore 6, 0), (58, .iload 6, 0), (60, .iload 4, 0), (62, .if_icmp .ge (46), 0), (65, .iload 5, 0), (67, .ifCond .ne (28), 0), (70, .aload_n 0, 0), (71, .getfield 38, 412), (74, .iload 6, 0), (76, .iaload, 0), (77, .iconst 3, 0), (78, .if_icmp .ne (21), 0), (81, .aload_n 0, 0), (82, .aload_n 0, 0), (83, .getfield 13, 403), (86, .iload 6, 0), (88, .invokevirtual 104, 124), (91, .iload_n 1, 0), (92, .if_icmp .ne (7), 0), (95, .iconst 1, 0), (96, .goto (4), 0), (99, .iconst 0, 0), (100, .istore 5, 0), (102, .iinc 6 (1), 0), (105, .goto (-47), 0), (108, .iload_n 2, 0)]
def kc_Mod_withValue_2 : mv_K := [(109, .iload 5, 0), (111, .ifCond .eq (7), 0), (114, .iconst 1, 0), (115, .goto (4), 0), (118, .iconst 0, 0), (119, .iadd, 0), (120, .istore_n 2, 0), (121, .iinc 3 (1), 0), (124, .goto (-94), 0), (127, .iload_n 2, 0), (128, .ireturn, 0)]
def kc_Mod_withValue : mv_K := kc_Mod_withValue_0 ++ (kc_Mod_withValue_1 ++ (kc_Mod_withValue_2))
def kc_Mod_runScript_0 : mv_K := [(0, .lconst 1, 0), (1, .lstore 4, 0), (3, .iconst 0, 0), (4, .istore 6, 0), (6, .iload 6, 0), (8, .iload_n 1, 0), (9, .if_icmp .ge (23), 0), (12, .iload 6, 0), (14, .iconst 4, 0), (15, .if_icmp .ge (17), 0), (18, .lload 4, 0), (20, .ldc2_w 236, 10000), (23, .lmul, 0), (24, .lstore 4, 0), (26, .iinc 6 (1), 0), (29, .goto (-23), 0), (32, .aload_n 0, 0), (33, .iload_n 1, 0), (34, .i2l, 0), (35, .lconst 1, 0), (36, .ldc2_w 238, 4), (39, .invokestatic 55, 109), (42, .ifCond .eq (19), 0), (45, .lload_n 2, 0), (46, .lconst 0, 0), (47, .lload 4, 0), (49, .lconst 1, 0), (50, .lsub, 0), (51, .invokestatic 55, 109), (54, .ifCond .eq (7), 0)]
def kc_Mod_runScript_1 : mv_K := [(57, .iconst 0, 0), (58, .goto (4), 0), (61, .iconst 1, 0), (62, .invokevirtual 122, 110), (65, .ifCond .eq (5), 0), (68, .iconst 0, 0), (69, .ireturn, 0), (70, .aload_n 0, 0), (71, .getfield 13, 403), (74, .iconst 0, 0), (75, .aload_n 0, 0), (76, .getfield 16, 404), (79, .iconst 0, 0), (80, .invokestatic 177, 151), (83, .iconst 0, 0), (84, .istore 6, 0), (86, .iload 6, 0), (88, .iload_n 1, 0), (89, .if_icmp .ge (58), 0), (92, .lload 4, 0), (94, .ldc2_w 236, 10000), (97, .ldiv, 0), (98, .lstore 4, 0), (100, .lload_n 2, 0), (101, .lload 4, 0), (103, .ldiv, 0), (104, .ldc2_w 236, 10000), (107, .lrem, 0), (108, .l2i, 0), (109, .istore 7, 0)]
def kc_Mod_runScript_2 : mv_K := [(111, .aload_n 0, 0), (112, .iload 7, 0), (114, .sipush (1000), 0), (117, .idiv, 0), (118, .iload 7, 0), (120, .bipush (100), 0), (122, .idiv, 0), (123, .bipush (10), 0), (125, .irem, 0), (126, .iload 7, 0), (128, .sipush (1000), 0), (131, .irem, 0), (132, .invokevirtual 240, 178), (135, .ifCond .ne (6), 0), (138, .iload 6, 0), (140, .ireturn, 0), (141, .iinc 6 (1), 0), (144, .goto (-58), 0), (147, .sipush (-9999), 0), (150, .ireturn, 0)]
def kc_Mod_runScript : mv_K := kc_Mod_runScript_0 ++ (kc_Mod_runScript_1 ++ (kc_Mod_runScript_2))
def kc_Mod_command_0 : mv_K := [(0, .iload_n 3, 0), (1, .bipush (10), 0), (3, .idiv, 0), (4, .istore 4, 0), (6, .iload_n 3, 0), (7, .bipush (10), 0), (9, .irem, 0), (10, .istore 5, 0), (12, .iload_n 1, 0), (13, .tableswitch (351) (1) (9) #[51, 98, 133, 157, 178, 237, 269, 289, 316], 51), (64, .iload 5, 0), (66, .ifCond .ne (43), 0), (69, .aload_n 0, 0), (70, .getfield 16, 404), (73, .iload 4, 0), (75, .invokestatic 148, 134), (78, .ifCond .eq (31), 0), (81, .aload_n 0, 0), (82, .getfield 16, 404), (85, .iconst 0, 0), (86, .iaload, 0), (87, .bipush (24), 0), (89, .if_icmp .ge (20), 0), (92, .aload_n 0, 0), (93, .aload_n 0, 0), (94, .getfield 16, 404), (97, .iload 4, 0), (99, .invokevirtual 198, 155), (102, .ifCond .lt (7), 0), (105, .iconst 1, 0)]
def kc_Mod_command_1 : mv_K := [(106, .goto (4), 0), (109, .iconst 0, 0), (110, .ireturn, 0), (111, .iload 5, 0), (113, .ifCond .ne (31), 0), (116, .aload_n 0, 0), (117, .getfield 16, 404), (120, .iload 4, 0), (122, .invokestatic 148, 134), (125, .ifCond .eq (19), 0), (128, .aload_n 0, 0), (129, .getfield 16, 404), (132, .iload 4, 0), (134, .invokestatic 204, 158), (137, .ifCond .lt (7), 0), (140, .iconst 1, 0), (141, .goto (4), 0), (144, .iconst 0, 0), (145, .ireturn, 0), (146, .iload_n 3, 0), (147, .ifCond .ne (21), 0), (150, .aload_n 0, 0), (151, .aload_n 0, 0), (152, .getfield 16, 404), (155, .invokevirtual 210, 161), (158, .sipush (-9999), 0), (161, .if_icmp .eq (7), 0), (164, .iconst 1, 0), (165, .goto (4), 0), (168, .iconst 0, 0)]
def kc_Mod_command_2 : mv_K := [(169, .ireturn, 0), (170, .iload_n 3, 0), (171, .ifCond .ne (18), 0), (174, .aload_n 0, 0), (175, .aload_n 0, 0), (176, .getfield 16, 404), (179, .invokevirtual 213, 164), (182, .ifCond .lt (7), 0), (185, .iconst 1, 0), (186, .goto (4), 0), (189, .iconst 0, 0), (190, .ireturn, 0), (191, .iload 5, 0), (193, .ifCond .gt (35), 0), (196, .aload_n 0, 0), (197, .getfield 16, 404), (200, .iload_n 2, 0), (201, .iload 4, 0), (203, .bipush (10), 0), (205, .irem, 0), (206, .invokestatic 165, 141), (209, .ifCond .eq (19), 0), (212, .aload_n 0, 0), (213, .getfield 16, 404), (216, .iload_n 2, 0), (217, .iload 4, 0), (219, .bipush (10), 0), (221, .irem, 0), (222, .invokestatic 84, 120), (225, .ifCond .eq (5), 0)]
def kc_Mod_command_3 : mv_K := [(228, .iconst 0, 0), (229, .ireturn, 0), (230, .aload_n 0, 0), (231, .getfield 16, 404), (234, .iload_n 2, 0), (235, .invokestatic 51, 119), (238, .iconst 1, 0), (239, .iadd, 0), (240, .iload 4, 0), (242, .bipush (10), 0), (244, .irem, 0), (245, .iadd, 0), (246, .iconst 4, 0), (247, .iastore, 0), (248, .iconst 1, 0), (249, .ireturn, 0), (250, .iload_n 3, 0), (251, .ifCond .gt (14), 0), (254, .aload_n 0, 0), (255, .aload_n 0, 0), (256, .getfield 16, 404), (259, .invokevirtual 216, 167), (262, .ifCond .ne (5), 0), (265, .iconst 0, 0), (266, .ireturn, 0), (267, .aload_n 0, 0), (268, .getfield 19, 405), (271, .iconst 0, 0), (272, .aload_n 0, 0), (273, .getfield 16, 404)]
def kc_Mod_command_4 : mv_K := [(276, .iconst 0, 0), (277, .invokestatic 177, 151), (280, .iconst 1, 0), (281, .ireturn, 0), (282, .iload_n 2, 0), (283, .ifCond .ne (17), 0), (286, .aload_n 0, 0), (287, .getfield 16, 404), (290, .iconst 1, 0), (291, .iaload, 0), (292, .iload_n 3, 0), (293, .if_icmp .gt (7), 0), (296, .iconst 1, 0), (297, .goto (4), 0), (300, .iconst 0, 0), (301, .ireturn, 0), (302, .aload_n 0, 0), (303, .aload_n 0, 0), (304, .getfield 16, 404), (307, .invokevirtual 135, 117), (310, .aload_n 0, 0), (311, .aload_n 0, 0), (312, .getfield 16, 404), (315, .invokevirtual 139, 127), (318, .iadd, 0), (319, .iload_n 3, 0), (320, .if_icmp .gt (7), 0), (323, .iconst 1, 0), (324, .goto (4), 0), (327, .iconst 0, 0)]
def kc_Mod_command_5 : mv_K := [(328, .ireturn, 0), (329, .aload_n 0, 0), (330, .getfield 16, 404), (333, .iload 4, 0), (335, .invokestatic 148, 134), (338, .ifCond .eq (24), 0), (341, .aload_n 0, 0), (342, .getfield 16, 404), (345, .iload 4, 0), (347, .invokestatic 67, 116), (350, .iconst 1, 0), (351, .iadd, 0), (352, .iaload, 0), (353, .iload 5, 0), (355, .if_icmp .ne (7), 0), (358, .iconst 1, 0), (359, .goto (4), 0), (362, .iconst 0, 0), (363, .ireturn, 0), (364, .iconst 0, 0), (365, .ireturn, 0)]
def kc_Mod_command : mv_K := kc_Mod_command_0 ++ (kc_Mod_command_1 ++ (kc_Mod_command_2 ++ (kc_Mod_command_3 ++ (kc_Mod_command_4 ++ (kc_Mod_command_5)))))
def kc_Mod_simulate_0 : mv_K := [(0, .aload_n 0, 0), (1, .iload_n 3, 0), (2, .i2l, 0), (3, .lconst 1, 0), (4, .ldc2_w 251, 30), (7, .invokestatic 55, 109), (10, .ifCond .eq (7), 0), (13, .iconst 0, 0), (14, .goto (4), 0), (17, .iconst 1, 0), (18, .invokevirtual 122, 110), (21, .ifCond .eq (5), 0), (24, .iconst 0, 0), (25, .ireturn, 0), (26, .aload_n 0, 0), (27, .getfield 13, 403), (30, .iconst 0, 0), (31, .aload_n 0, 0), (32, .getfield 16, 404), (35, .iconst 0, 0), (36, .invokestatic 177, 151), (39, .lload_n 1, 0), (40, .lstore 4, 0), (42, .bipush (7), 0), (44, .istore 6, 0), (46, .iconst 0, 0), (47, .istore 7, 0), (49, .iload 7, 0), (51, .iload_n 3, 0), (52, .if_icmp .ge (78), 0)]
def kc_Mod_simulate_1 : mv_K := [(55, .lload 4, 0), (57, .ldc2_w 253, 6364136223846793005), (60, .lmul, 0), (61, .ldc2_w 255, 1442695040888963407), (64, .ladd, 0), (65, .lstore 4, 0), (67, .lload 4, 0), (69, .bipush (33), 0), (71, .lushr, 0), (72, .l2i, 0), (73, .istore 8, 0), (75, .iload 6, 0), (77, .iload 8, 0), (79, .iconst 3, 0), (80, .irem, 0), (81, .iadd, 0), (82, .istore 6, 0), (84, .aload_n 0, 0), (85, .iload 8, 0), (87, .iload 6, 0), (89, .invokevirtual 257, 180), (92, .aload_n 0, 0), (93, .aload_n 0, 0), (94, .getfield 16, 404), (97, .invokevirtual 185, 147), (100, .ifCond .eq (15), 0), (103, .aload_n 0, 0), (104, .aload_n 0, 0), (105, .getfield 16, 404), (108, .invokevirtual 192, 152)]
def kc_Mod_simulate_2 : mv_K := [(111, .pop, 0), (112, .goto (12), 0), (115, .aload_n 0, 0), (116, .aload_n 0, 0), (117, .getfield 16, 404), (120, .invokevirtual 213, 164), (123, .pop, 0), (124, .iinc 7 (1), 0), (127, .goto (-78), 0), (130, .aload_n 0, 0), (131, .aload_n 0, 0), (132, .getfield 16, 404), (135, .invokevirtual 135, 117), (138, .aload_n 0, 0), (139, .aload_n 0, 0), (140, .getfield 16, 404), (143, .invokevirtual 139, 127), (146, .iadd, 0), (147, .istore 7, 0), (149, .sipush (1000), 0), (152, .aload_n 0, 0), (153, .getfield 16, 404), (156, .iconst 1, 0), (157, .iaload, 0), (158, .imul, 0), (159, .iload 7, 0), (161, .sipush (999), 0), (164, .if_icmp .le (9), 0), (167, .sipush (999), 0), (170, .goto (5), 0)]
def kc_Mod_simulate_3 : mv_K := [(173, .iload 7, 0), (175, .iadd, 0), (176, .ireturn, 0)]
def kc_Mod_simulate : mv_K := kc_Mod_simulate_0 ++ (kc_Mod_simulate_1 ++ (kc_Mod_simulate_2 ++ (kc_Mod_simulate_3)))
def kc_Mod_layDrawn_0 : mv_K := [(0, .aload_n 0, 0), (1, .iconst 0, 0), (2, .putfield 219, 415), (5, .aload_n 0, 0), (6, .bipush (97), 0), (8, .iload_n 1, 0), (9, .iconst 4, 0), (10, .idiv, 0), (11, .iconst 3, 0), (12, .irem, 0), (13, .iadd, 0), (14, .invokevirtual 244, 181), (17, .aload_n 0, 0), (18, .bipush (97), 0), (20, .iload_n 1, 0), (21, .iconst 4, 0), (22, .idiv, 0), (23, .iconst 3, 0), (24, .irem, 0), (25, .iadd, 0), (26, .invokevirtual 244, 181), (29, .aload_n 0, 0), (30, .bipush (32), 0), (32, .invokevirtual 244, 181), (35, .aload_n 0, 0), (36, .iload_n 2, 0), (37, .invokevirtual 247, 182), (40, .aload_n 0, 0), (41, .iload_n 1, 0), (42, .bipush (16), 0)]
def kc_Mod_layDrawn_1 : mv_K := [(44, .idiv, 0), (45, .iconst 4, 0), (46, .irem, 0), (47, .ifCond .ne (8), 0), (50, .bipush (61), 0), (52, .goto (5), 0), (55, .bipush (58), 0), (57, .invokevirtual 244, 181), (60, .aload_n 0, 0), (61, .bipush (109), 0), (63, .iload_n 1, 0), (64, .bipush (64), 0), (66, .idiv, 0), (67, .iconst 5, 0), (68, .irem, 0), (69, .iadd, 0), (70, .invokevirtual 244, 181), (73, .iload_n 1, 0), (74, .ldc 250, 32768), (76, .idiv, 0), (77, .iconst 2, 0), (78, .irem, 0), (79, .ifCond .ne (21), 0), (82, .aload_n 0, 0), (83, .bipush (32), 0), (85, .invokevirtual 244, 181), (88, .aload_n 0, 0), (89, .iload_n 1, 0), (90, .sipush (512), 0), (93, .idiv, 0)]
def kc_Mod_layDrawn_2 : mv_K := [(94, .bipush (50), 0), (96, .irem, 0), (97, .invokevirtual 247, 182), (100, .aload_n 0, 0), (101, .getfield 16, 404), (104, .iconst 0, 0), (105, .iaload, 0), (106, .invokestatic 67, 116), (109, .istore_n 3, 0), (110, .aload_n 0, 0), (111, .getfield 16, 404), (114, .iload_n 3, 0), (115, .aload_n 0, 0), (116, .getfield 219, 415), (119, .iastore, 0), (120, .aload_n 0, 0), (121, .getfield 16, 404), (124, .iload_n 3, 0), (125, .iconst 1, 0), (126, .iadd, 0), (127, .sipush (-9999), 0), (130, .iastore, 0), (131, .iconst 0, 0), (132, .istore 4, 0), (134, .iload 4, 0), (136, .aload_n 0, 0), (137, .getfield 219, 415), (140, .if_icmp .ge (27), 0), (143, .aload_n 0, 0), (144, .getfield 16, 404)]
def kc_Mod_layDrawn_3 : mv_K := [(147, .iload_n 3, 0), (148, .iconst 2, 0), (149, .iadd, 0), (150, .iload 4, 0), (152, .iadd, 0), (153, .aload_n 0, 0), (154, .getfield 41, 414), (157, .iload 4, 0), (159, .iaload, 0), (160, .iastore, 0), (161, .iinc 4 (1), 0), (164, .goto (-30), 0), (167, .return_, 0)]
def kc_Mod_layDrawn : mv_K := kc_Mod_layDrawn_0 ++ (kc_Mod_layDrawn_1 ++ (kc_Mod_layDrawn_2 ++ (kc_Mod_layDrawn_3)))
def kc_Mod_laySign : mv_K := [(0, .aload_n 0, 0), (1, .getfield 41, 414), (4, .aload_n 0, 0), (5, .getfield 219, 415), (8, .iload_n 1, 0), (9, .iastore, 0), (10, .aload_n 0, 0), (11, .dup, 0), (12, .getfield 219, 415), (15, .iconst 1, 0), (16, .iadd, 0), (17, .putfield 219, 415), (20, .return_, 0)]
def kc_Mod_layDigits : mv_K := [(0, .aload_n 0, 0), (1, .iload_n 1, 0), (2, .iload_n 1, 0), (3, .invokestatic 223, 174), (6, .invokevirtual 226, 175), (9, .return_, 0)]
def kc_Mod_save : mv_K := [(0, .aload_n 0, 0), (1, .iload_n 1, 0), (2, .i2l, 0), (3, .lconst 0, 0), (4, .lconst 1, 0), (5, .invokestatic 55, 109), (8, .ifCond .eq (7), 0), (11, .iconst 0, 0), (12, .goto (4), 0), (15, .iconst 1, 0), (16, .invokevirtual 122, 110), (19, .ifCond .eq (5), 0), (22, .iconst 0, 0), (23, .ireturn, 0), (24, .aload_n 0, 0), (25, .getfield 13, 403), (28, .iconst 0, 0), (29, .aload_n 0, 0), (30, .getfield 25, 408), (33, .sipush (1221), 0), (36, .iload_n 1, 0), (37, .imul, 0), (38, .invokestatic 177, 151), (41, .aload_n 0, 0), (42, .getfield 28, 409), (45, .iload_n 1, 0), (46, .iconst 1, 0), (47, .bastore, 0), (48, .aload_n 0, 0), (49, .getfield 13, 403), (52, .iconst 0, 0), (53, .iaload, 0), (54, .ireturn, 0)]
def kc_Mod_restore : mv_K := [(0, .aload_n 0, 0), (1, .iload_n 1, 0), (2, .i2l, 0), (3, .lconst 0, 0), (4, .lconst 1, 0), (5, .invokestatic 55, 109), (8, .ifCond .ne (7), 0), (11, .iconst 1, 0), (12, .goto (17), 0), (15, .aload_n 0, 0), (16, .getfield 28, 409), (19, .iload_n 1, 0), (20, .baload, 0), (21, .ifCond .ne (7), 0), (24, .iconst 2, 0), (25, .goto (4), 0), (28, .iconst 0, 0), (29, .invokevirtual 122, 110), (32, .ifCond .eq (5), 0), (35, .iconst 0, 0), (36, .ireturn, 0), (37, .aload_n 0, 0), (38, .getfield 25, 408), (41, .sipush (1221), 0), (44, .iload_n 1, 0), (45, .imul, 0), (46, .aload_n 0, 0), (47, .getfield 13, 403), (50, .iconst 0, 0), (51, .invokestatic 177, 151), (54, .aload_n 0, 0), (55, .iconst 0, 0), (56, .putfield 44, 407), (59, .aload_n 0, 0), (60, .getfield 13, 403), (63, .iconst 0, 0), (64, .iaload, 0), (65, .ireturn, 0)]
def kc_Law_append : mv_K := [(0, .aload_n 2, 0), (1, .iconst 0, 0), (2, .aload_n 0, 0), (3, .iload_n 1, 0), (4, .invokevirtual 7, 50), (7, .i2l, 0), (8, .lastore, 0), (9, .goto (9), 0), (12, .astore_n 3, 0), (13, .iconst 1, 0), (14, .ireturn, 0), (15, .astore_n 3, 0), (16, .iconst 2, 0), (17, .ireturn, 0), (18, .iconst 0, 0), (19, .ireturn, 0)]
def kc_Law_about : mv_K := [(0, .aload_n 2, 0), (1, .iconst 0, 0), (2, .aload_n 0, 0), (3, .iload_n 1, 0), (4, .invokevirtual 17, 51), (7, .i2l, 0), (8, .lastore, 0), (9, .goto (6), 0), (12, .astore_n 3, 0), (13, .iconst 1, 0), (14, .ireturn, 0), (15, .iconst 0, 0), (16, .ireturn, 0)]
def kc_Law_line : mv_K := [(0, .aload_n 3, 0), (1, .iconst 0, 0), (2, .aload_n 0, 0), (3, .iload_n 1, 0), (4, .iload_n 2, 0), (5, .invokevirtual 20, 52), (8, .i2l, 0), (9, .lastore, 0), (10, .goto (11), 0), (13, .astore 4, 0), (15, .iconst 1, 0), (16, .ireturn, 0), (17, .astore 4, 0), (19, .iconst 2, 0), (20, .ireturn, 0), (21, .iconst 0, 0), (22, .ireturn, 0)]
def kc_Law_charAt : mv_K := [(0, .aload_n 3, 0), (1, .iconst 0, 0), (2, .aload_n 0, 0), (3, .iload_n 1, 0), (4, .iload_n 2, 0), (5, .invokevirtual 26, 54), (8, .i2l, 0), (9, .lastore, 0), (10, .goto (11), 0), (13, .astore 4, 0), (15, .iconst 1, 0), (16, .ireturn, 0), (17, .astore 4, 0), (19, .iconst 2, 0), (20, .ireturn, 0), (21, .iconst 0, 0), (22, .ireturn, 0)]
def kc_Law_value : mv_K := [(0, .aload_n 3, 0), (1, .iconst 0, 0), (2, .aload_n 0, 0), (3, .iload_n 1, 0), (4, .iload_n 2, 0), (5, .invokevirtual 29, 55), (8, .i2l, 0), (9, .lastore, 0), (10, .goto (7), 0), (13, .astore 4, 0), (15, .iconst 1, 0), (16, .ireturn, 0), (17, .iconst 0, 0), (18, .ireturn, 0)]
def kc_Law_template : mv_K := [(0, .aload_n 3, 0), (1, .iconst 0, 0), (2, .aload_n 0, 0), (3, .iload_n 1, 0), (4, .iload_n 2, 0), (5, .invokevirtual 32, 57), (8, .i2l, 0), (9, .lastore, 0), (10, .goto (11), 0), (13, .astore 4, 0), (15, .iconst 1, 0), (16, .ireturn, 0), (17, .astore 4, 0), (19, .iconst 2, 0), (20, .ireturn, 0), (21, .iconst 0, 0), (22, .ireturn, 0)]
def kc_Law_piece : mv_K := [(0, .aload 4, 0), (2, .iconst 0, 0), (3, .aload_n 0, 0), (4, .iload_n 1, 0), (5, .iload_n 2, 0), (6, .iload_n 3, 0), (7, .invokevirtual 35, 59), (10, .i2l, 0), (11, .lastore, 0), (12, .goto (11), 0), (15, .astore 5, 0), (17, .iconst 1, 0), (18, .ireturn, 0), (19, .astore 5, 0), (21, .iconst 2, 0), (22, .ireturn, 0), (23, .iconst 0, 0), (24, .ireturn, 0)]
def kc_Law_rises : mv_K := [(0, .aload_n 3, 0), (1, .iconst 0, 0), (2, .aload_n 0, 0), (3, .iload_n 1, 0), (4, .iload_n 2, 0), (5, .invokevirtual 39, 60), (8, .i2l, 0), (9, .lastore, 0), (10, .goto (7), 0), (13, .astore 4, 0), (15, .iconst 1, 0), (16, .ireturn, 0), (17, .iconst 0, 0), (18, .ireturn, 0)]
def kc_Law_take : mv_K := [(0, .aload_n 1, 0), (1, .iconst 0, 0), (2, .aload_n 0, 0), (3, .invokevirtual 42, 61), (6, .i2l, 0), (7, .lastore, 0), (8, .goto (6), 0), (11, .astore_n 2, 0), (12, .iconst 1, 0), (13, .ireturn, 0), (14, .iconst 0, 0), (15, .ireturn, 0)]
def kc_Law_again : mv_K := [(0, .aload_n 2, 0), (1, .iconst 0, 0), (2, .aload_n 0, 0), (3, .iload_n 1, 0), (4, .invokevirtual 46, 62), (7, .i2l, 0), (8, .lastore, 0), (9, .goto (9), 0), (12, .astore_n 3, 0), (13, .iconst 1, 0), (14, .ireturn, 0), (15, .astore_n 3, 0), (16, .iconst 2, 0), (17, .ireturn, 0), (18, .iconst 0, 0), (19, .ireturn, 0)]
def kc_Law_remove : mv_K := [(0, .aload_n 2, 0), (1, .iconst 0, 0), (2, .aload_n 0, 0), (3, .iload_n 1, 0), (4, .invokevirtual 49, 63), (7, .i2l, 0), (8, .lastore, 0), (9, .goto (6), 0), (12, .astore_n 3, 0), (13, .iconst 1, 0), (14, .ireturn, 0), (15, .iconst 0, 0), (16, .ireturn, 0)]
def kc_Law_open : mv_K := [(0, .aload_n 3, 0), (1, .iconst 0, 0), (2, .aload_n 0, 0), (3, .iload_n 1, 0), (4, .iload_n 2, 0), (5, .invokevirtual 52, 64), (8, .i2l, 0), (9, .lastore, 0), (10, .goto (11), 0), (13, .astore 4, 0), (15, .iconst 1, 0), (16, .ireturn, 0), (17, .astore 4, 0), (19, .iconst 2, 0), (20, .ireturn, 0), (21, .iconst 0, 0), (22, .ireturn, 0)]
def kc_Law_forget : mv_K := [(0, .aload_n 1, 0), (1, .iconst 0, 0), (2, .aload_n 0, 0), (3, .invokevirtual 55, 65), (6, .i2l, 0), (7, .lastore, 0), (8, .goto (6), 0), (11, .astore_n 2, 0), (12, .iconst 1, 0), (13, .ireturn, 0), (14, .iconst 0, 0), (15, .ireturn, 0)]
def kc_Law_undo : mv_K := [(0, .aload_n 1, 0), (1, .iconst 0, 0), (2, .aload_n 0, 0), (3, .invokevirtual 58, 66), (6, .i2l, 0), (7, .lastore, 0), (8, .goto (6), 0), (11, .astore_n 2, 0), (12, .iconst 1, 0), (13, .ireturn, 0), (14, .iconst 0, 0), (15, .ireturn, 0)]
def kc_Law_next : mv_K := [(0, .aload_n 3, 0), (1, .iconst 0, 0), (2, .aload_n 0, 0), (3, .iload_n 1, 0), (4, .iload_n 2, 0), (5, .invokevirtual 61, 67), (8, .i2l, 0), (9, .lastore, 0), (10, .goto (11), 0), (13, .astore 4, 0), (15, .iconst 1, 0), (16, .ireturn, 0), (17, .astore 4, 0), (19, .iconst 2, 0), (20, .ireturn, 0), (21, .iconst 0, 0), (22, .ireturn, 0)]
def kc_Law_withValue : mv_K := [(0, .aload_n 2, 0), (1, .iconst 0, 0), (2, .aload_n 0, 0), (3, .iload_n 1, 0), (4, .invokevirtual 64, 70), (7, .i2l, 0), (8, .lastore, 0), (9, .goto (6), 0), (12, .astore_n 3, 0), (13, .iconst 1, 0), (14, .ireturn, 0), (15, .iconst 0, 0), (16, .ireturn, 0)]
def kc_Law_runScript : mv_K := [(0, .aload 4, 0), (2, .iconst 0, 0), (3, .aload_n 0, 0), (4, .iload_n 1, 0), (5, .lload_n 2, 0), (6, .invokevirtual 67, 71), (9, .i2l, 0), (10, .lastore, 0), (11, .goto (7), 0), (14, .astore 5, 0), (16, .iconst 1, 0), (17, .ireturn, 0), (18, .iconst 0, 0), (19, .ireturn, 0)]
def kc_Law_simulate : mv_K := [(0, .aload 4, 0), (2, .iconst 0, 0), (3, .aload_n 0, 0), (4, .lload_n 1, 0), (5, .iload_n 3, 0), (6, .invokevirtual 71, 72), (9, .i2l, 0), (10, .lastore, 0), (11, .goto (7), 0), (14, .astore 5, 0), (16, .iconst 1, 0), (17, .ireturn, 0), (18, .iconst 0, 0), (19, .ireturn, 0)]
def kc_Law_save : mv_K := [(0, .aload_n 2, 0), (1, .iconst 0, 0), (2, .aload_n 0, 0), (3, .iload_n 1, 0), (4, .invokevirtual 75, 75), (7, .i2l, 0), (8, .lastore, 0), (9, .goto (6), 0), (12, .astore_n 3, 0), (13, .iconst 1, 0), (14, .ireturn, 0), (15, .iconst 0, 0), (16, .ireturn, 0)]
def kc_Law_restore : mv_K := [(0, .aload_n 2, 0), (1, .iconst 0, 0), (2, .aload_n 0, 0), (3, .iload_n 1, 0), (4, .invokevirtual 78, 77), (7, .i2l, 0), (8, .lastore, 0), (9, .goto (9), 0), (12, .astore_n 3, 0), (13, .iconst 1, 0), (14, .ireturn, 0), (15, .astore_n 3, 0), (16, .iconst 2, 0), (17, .ireturn, 0), (18, .iconst 0, 0), (19, .ireturn, 0)]
def kc_Law_law_0 : mv_K := [(0, .new 8, 0), (3, .dup, 0), (4, .invokespecial 81, 39), (7, .astore_n 1, 0), (8, .new 82, 4), (11, .dup, 0), (12, .invokespecial 84, 106), (15, .astore_n 2, 0), (16, .iconst 1, 0), (17, .newarray .long, 0), (19, .astore_n 3, 0), (20, .iconst 0, 0), (21, .istore 4, 0), (23, .iload 4, 0), (25, .aload_n 0, 0), (26, .arraylength, 0), (27, .iconst 4, 0), (28, .isub, 0), (29, .if_icmp .gt (1508), 0), (32, .aload_n 0, 0), (33, .iload 4, 0), (35, .iaload, 0), (36, .bipush (31), 0), (38, .iand, 0), (39, .tableswitch (1492) (0) (26) #[121, 177, 190, 203, 259, 327, 395, 463, 531, 611, 679, 723, 779, 835, 848, 861, 929, 973, 1017, 1030, 1043, 1056, 1124, 1180, 1280, 1380, 1436], 121), (160, .aload_n 1, 0), (161, .aload_n 0, 0), (162, .iload 4, 0), (164, .iconst 1, 0), (165, .iadd, 0)]
def kc_Law_law_1 : mv_K := [(166, .iaload, 0), (167, .aload_n 3, 0), (168, .invokestatic 85, 185), (171, .istore 5, 0), (173, .aload_n 2, 0), (174, .aload_n 0, 0), (175, .iload 4, 0), (177, .iconst 1, 0), (178, .iadd, 0), (179, .iaload, 0), (180, .invokevirtual 90, 108), (183, .istore 6, 0), (185, .aload_n 2, 0), (186, .invokevirtual 91, 107), (189, .iload 5, 0), (191, .if_icmp .eq (5), 0), (194, .iconst 0, 0), (195, .ireturn, 0), (196, .iload 5, 0), (198, .ifCond .ne (15), 0), (201, .aload_n 3, 0), (202, .iconst 0, 0), (203, .laload, 0), (204, .iload 6, 0), (206, .i2l, 0), (207, .lcmp, 0), (208, .ifCond .eq (5), 0), (211, .iconst 0, 0), (212, .ireturn, 0), (213, .goto (1318), 0)]
def kc_Law_law_2 : mv_K := [(216, .aload_n 1, 0), (217, .invokevirtual 94, 40), (220, .aload_n 2, 0), (221, .invokevirtual 97, 111), (224, .if_icmp .eq (1307), 0), (227, .iconst 0, 0), (228, .ireturn, 0), (229, .aload_n 1, 0), (230, .invokevirtual 98, 41), (233, .aload_n 2, 0), (234, .invokevirtual 101, 112), (237, .if_icmp .eq (1294), 0), (240, .iconst 0, 0), (241, .ireturn, 0), (242, .aload_n 1, 0), (243, .aload_n 0, 0), (244, .iload 4, 0), (246, .iconst 1, 0), (247, .iadd, 0), (248, .iaload, 0), (249, .aload_n 3, 0), (250, .invokestatic 102, 186), (253, .istore 5, 0), (255, .aload_n 2, 0), (256, .aload_n 0, 0), (257, .iload 4, 0), (259, .iconst 1, 0), (260, .iadd, 0), (261, .iaload, 0), (262, .invokevirtual 104, 115)]
def kc_Law_law_3 : mv_K := [(265, .istore 6, 0), (267, .aload_n 2, 0), (268, .invokevirtual 91, 107), (271, .iload 5, 0), (273, .if_icmp .eq (5), 0), (276, .iconst 0, 0), (277, .ireturn, 0), (278, .iload 5, 0), (280, .ifCond .ne (15), 0), (283, .aload_n 3, 0), (284, .iconst 0, 0), (285, .laload, 0), (286, .iload 6, 0), (288, .i2l, 0), (289, .lcmp, 0), (290, .ifCond .eq (5), 0), (293, .iconst 0, 0), (294, .ireturn, 0), (295, .goto (1236), 0), (298, .aload_n 1, 0), (299, .aload_n 0, 0), (300, .iload 4, 0), (302, .iconst 1, 0), (303, .iadd, 0), (304, .iaload, 0), (305, .aload_n 0, 0), (306, .iload 4, 0), (308, .iconst 2, 0), (309, .iadd, 0), (310, .iaload, 0)]
def kc_Law_law_4 : mv_K := [(311, .aload_n 3, 0), (312, .invokestatic 105, 187), (315, .istore 5, 0), (317, .aload_n 2, 0), (318, .aload_n 0, 0), (319, .iload 4, 0), (321, .iconst 1, 0), (322, .iadd, 0), (323, .iaload, 0), (324, .aload_n 0, 0), (325, .iload 4, 0), (327, .iconst 2, 0), (328, .iadd, 0), (329, .iaload, 0), (330, .invokevirtual 108, 133), (333, .istore 6, 0), (335, .aload_n 2, 0), (336, .invokevirtual 91, 107), (339, .iload 5, 0), (341, .if_icmp .eq (5), 0), (344, .iconst 0, 0), (345, .ireturn, 0), (346, .iload 5, 0), (348, .ifCond .ne (15), 0), (351, .aload_n 3, 0), (352, .iconst 0, 0), (353, .laload, 0), (354, .iload 6, 0), (356, .i2l, 0), (357, .lcmp, 0)]
def kc_Law_law_5 : mv_K := [(358, .ifCond .eq (5), 0), (361, .iconst 0, 0), (362, .ireturn, 0), (363, .goto (1168), 0), (366, .aload_n 1, 0), (367, .aload_n 0, 0), (368, .iload 4, 0), (370, .iconst 1, 0), (371, .iadd, 0), (372, .iaload, 0), (373, .aload_n 0, 0), (374, .iload 4, 0), (376, .iconst 2, 0), (377, .iadd, 0), (378, .iaload, 0), (379, .aload_n 3, 0), (380, .invokestatic 109, 188), (383, .istore 5, 0), (385, .aload_n 2, 0), (386, .aload_n 0, 0), (387, .iload 4, 0), (389, .iconst 1, 0), (390, .iadd, 0), (391, .iaload, 0), (392, .aload_n 0, 0), (393, .iload 4, 0), (395, .iconst 2, 0), (396, .iadd, 0), (397, .iaload, 0), (398, .invokevirtual 111, 136)]
def kc_Law_law_6 : mv_K := [(401, .istore 6, 0), (403, .aload_n 2, 0), (404, .invokevirtual 91, 107), (407, .iload 5, 0), (409, .if_icmp .eq (5), 0), (412, .iconst 0, 0), (413, .ireturn, 0), (414, .iload 5, 0), (416, .ifCond .ne (15), 0), (419, .aload_n 3, 0), (420, .iconst 0, 0), (421, .laload, 0), (422, .iload 6, 0), (424, .i2l, 0), (425, .lcmp, 0), (426, .ifCond .eq (5), 0), (429, .iconst 0, 0), (430, .ireturn, 0), (431, .goto (1100), 0), (434, .aload_n 1, 0), (435, .aload_n 0, 0), (436, .iload 4, 0), (438, .iconst 1, 0), (439, .iadd, 0), (440, .iaload, 0), (441, .aload_n 0, 0), (442, .iload 4, 0), (444, .iconst 2, 0), (445, .iadd, 0), (446, .iaload, 0)]
def kc_Law_law_7 : mv_K := [(447, .aload_n 3, 0), (448, .invokestatic 112, 189), (451, .istore 5, 0), (453, .aload_n 2, 0), (454, .aload_n 0, 0), (455, .iload 4, 0), (457, .iconst 1, 0), (458, .iadd, 0), (459, .iaload, 0), (460, .aload_n 0, 0), (461, .iload 4, 0), (463, .iconst 2, 0), (464, .iadd, 0), (465, .iaload, 0), (466, .invokevirtual 114, 137), (469, .istore 6, 0), (471, .aload_n 2, 0), (472, .invokevirtual 91, 107), (475, .iload 5, 0), (477, .if_icmp .eq (5), 0), (480, .iconst 0, 0), (481, .ireturn, 0), (482, .iload 5, 0), (484, .ifCond .ne (15), 0), (487, .aload_n 3, 0), (488, .iconst 0, 0), (489, .laload, 0), (490, .iload 6, 0), (492, .i2l, 0), (493, .lcmp, 0)]
def kc_Law_law_8 : mv_K := [(494, .ifCond .eq (5), 0), (497, .iconst 0, 0), (498, .ireturn, 0), (499, .goto (1032), 0), (502, .aload_n 1, 0), (503, .aload_n 0, 0), (504, .iload 4, 0), (506, .iconst 1, 0), (507, .iadd, 0), (508, .iaload, 0), (509, .aload_n 0, 0), (510, .iload 4, 0), (512, .iconst 2, 0), (513, .iadd, 0), (514, .iaload, 0), (515, .aload_n 3, 0), (516, .invokestatic 115, 190), (519, .istore 5, 0), (521, .aload_n 2, 0), (522, .aload_n 0, 0), (523, .iload 4, 0), (525, .iconst 1, 0), (526, .iadd, 0), (527, .iaload, 0), (528, .aload_n 0, 0), (529, .iload 4, 0), (531, .iconst 2, 0), (532, .iadd, 0), (533, .iaload, 0), (534, .invokevirtual 117, 138)]
def kc_Law_law_9 : mv_K := [(537, .istore 6, 0), (539, .aload_n 2, 0), (540, .invokevirtual 91, 107), (543, .iload 5, 0), (545, .if_icmp .eq (5), 0), (548, .iconst 0, 0), (549, .ireturn, 0), (550, .iload 5, 0), (552, .ifCond .ne (15), 0), (555, .aload_n 3, 0), (556, .iconst 0, 0), (557, .laload, 0), (558, .iload 6, 0), (560, .i2l, 0), (561, .lcmp, 0), (562, .ifCond .eq (5), 0), (565, .iconst 0, 0), (566, .ireturn, 0), (567, .goto (964), 0), (570, .aload_n 1, 0), (571, .aload_n 0, 0), (572, .iload 4, 0), (574, .iconst 1, 0), (575, .iadd, 0), (576, .iaload, 0), (577, .aload_n 0, 0), (578, .iload 4, 0), (580, .iconst 2, 0), (581, .iadd, 0), (582, .iaload, 0)]
def kc_Law_law_10 : mv_K := [(583, .aload_n 0, 0), (584, .iload 4, 0), (586, .iconst 3, 0), (587, .iadd, 0), (588, .iaload, 0), (589, .aload_n 3, 0), (590, .invokestatic 118, 191), (593, .istore 5, 0), (595, .aload_n 2, 0), (596, .aload_n 0, 0), (597, .iload 4, 0), (599, .iconst 1, 0), (600, .iadd, 0), (601, .iaload, 0), (602, .aload_n 0, 0), (603, .iload 4, 0), (605, .iconst 2, 0), (606, .iadd, 0), (607, .iaload, 0), (608, .aload_n 0, 0), (609, .iload 4, 0), (611, .iconst 3, 0), (612, .iadd, 0), (613, .iaload, 0), (614, .invokevirtual 121, 140), (617, .istore 6, 0), (619, .aload_n 2, 0), (620, .invokevirtual 91, 107), (623, .iload 5, 0), (625, .if_icmp .eq (5), 0)]
def kc_Law_law_11 : mv_K := [(628, .iconst 0, 0), (629, .ireturn, 0), (630, .iload 5, 0), (632, .ifCond .ne (15), 0), (635, .aload_n 3, 0), (636, .iconst 0, 0), (637, .laload, 0), (638, .iload 6, 0), (640, .i2l, 0), (641, .lcmp, 0), (642, .ifCond .eq (5), 0), (645, .iconst 0, 0), (646, .ireturn, 0), (647, .goto (884), 0), (650, .aload_n 1, 0), (651, .aload_n 0, 0), (652, .iload 4, 0), (654, .iconst 1, 0), (655, .iadd, 0), (656, .iaload, 0), (657, .aload_n 0, 0), (658, .iload 4, 0), (660, .iconst 2, 0), (661, .iadd, 0), (662, .iaload, 0), (663, .aload_n 3, 0), (664, .invokestatic 122, 192), (667, .istore 5, 0), (669, .aload_n 2, 0), (670, .aload_n 0, 0)]
def kc_Law_law_12 : mv_K := [(671, .iload 4, 0), (673, .iconst 1, 0), (674, .iadd, 0), (675, .iaload, 0), (676, .aload_n 0, 0), (677, .iload 4, 0), (679, .iconst 2, 0), (680, .iadd, 0), (681, .iaload, 0), (682, .invokevirtual 124, 143), (685, .istore 6, 0), (687, .aload_n 2, 0), (688, .invokevirtual 91, 107), (691, .iload 5, 0), (693, .if_icmp .eq (5), 0), (696, .iconst 0, 0), (697, .ireturn, 0), (698, .iload 5, 0), (700, .ifCond .ne (15), 0), (703, .aload_n 3, 0), (704, .iconst 0, 0), (705, .laload, 0), (706, .iload 6, 0), (708, .i2l, 0), (709, .lcmp, 0), (710, .ifCond .eq (5), 0), (713, .iconst 0, 0), (714, .ireturn, 0), (715, .goto (816), 0), (718, .aload_n 1, 0)]
def kc_Law_law_13 : mv_K := [(719, .aload_n 3, 0), (720, .invokestatic 125, 193), (723, .istore 5, 0), (725, .aload_n 2, 0), (726, .invokevirtual 128, 145), (729, .istore 6, 0), (731, .aload_n 2, 0), (732, .invokevirtual 91, 107), (735, .iload 5, 0), (737, .if_icmp .eq (5), 0), (740, .iconst 0, 0), (741, .ireturn, 0), (742, .iload 5, 0), (744, .ifCond .ne (15), 0), (747, .aload_n 3, 0), (748, .iconst 0, 0), (749, .laload, 0), (750, .iload 6, 0), (752, .i2l, 0), (753, .lcmp, 0), (754, .ifCond .eq (5), 0), (757, .iconst 0, 0), (758, .ireturn, 0), (759, .goto (772), 0), (762, .aload_n 1, 0), (763, .aload_n 0, 0), (764, .iload 4, 0), (766, .iconst 1, 0), (767, .iadd, 0), (768, .iaload, 0)]
def kc_Law_law_14 : mv_K := [(769, .aload_n 3, 0), (770, .invokestatic 129, 194), (773, .istore 5, 0), (775, .aload_n 2, 0), (776, .aload_n 0, 0), (777, .iload 4, 0), (779, .iconst 1, 0), (780, .iadd, 0), (781, .iaload, 0), (782, .invokevirtual 131, 154), (785, .istore 6, 0), (787, .aload_n 2, 0), (788, .invokevirtual 91, 107), (791, .iload 5, 0), (793, .if_icmp .eq (5), 0), (796, .iconst 0, 0), (797, .ireturn, 0), (798, .iload 5, 0), (800, .ifCond .ne (15), 0), (803, .aload_n 3, 0), (804, .iconst 0, 0), (805, .laload, 0), (806, .iload 6, 0), (808, .i2l, 0), (809, .lcmp, 0), (810, .ifCond .eq (5), 0), (813, .iconst 0, 0), (814, .ireturn, 0), (815, .goto (716), 0), (818, .aload_n 1, 0)]
def kc_Law_law_15 : mv_K := [(819, .aload_n 0, 0), (820, .iload 4, 0), (822, .iconst 1, 0), (823, .iadd, 0), (824, .iaload, 0), (825, .aload_n 3, 0), (826, .invokestatic 132, 195), (829, .istore 5, 0), (831, .aload_n 2, 0), (832, .aload_n 0, 0), (833, .iload 4, 0), (835, .iconst 1, 0), (836, .iadd, 0), (837, .iaload, 0), (838, .invokevirtual 134, 157), (841, .istore 6, 0), (843, .aload_n 2, 0), (844, .invokevirtual 91, 107), (847, .iload 5, 0), (849, .if_icmp .eq (5), 0), (852, .iconst 0, 0), (853, .ireturn, 0), (854, .iload 5, 0), (856, .ifCond .ne (15), 0), (859, .aload_n 3, 0), (860, .iconst 0, 0), (861, .laload, 0), (862, .iload 6, 0), (864, .i2l, 0), (865, .lcmp, 0)]
def kc_Law_law_16 : mv_K := [(866, .ifCond .eq (5), 0), (869, .iconst 0, 0), (870, .ireturn, 0), (871, .goto (660), 0), (874, .aload_n 1, 0), (875, .invokevirtual 135, 44), (878, .aload_n 2, 0), (879, .invokevirtual 138, 160), (882, .if_icmp .eq (649), 0), (885, .iconst 0, 0), (886, .ireturn, 0), (887, .aload_n 1, 0), (888, .invokevirtual 139, 46), (891, .aload_n 2, 0), (892, .invokevirtual 142, 163), (895, .if_icmp .eq (636), 0), (898, .iconst 0, 0), (899, .ireturn, 0), (900, .aload_n 1, 0), (901, .aload_n 0, 0), (902, .iload 4, 0), (904, .iconst 1, 0), (905, .iadd, 0), (906, .iaload, 0), (907, .aload_n 0, 0), (908, .iload 4, 0), (910, .iconst 2, 0), (911, .iadd, 0), (912, .iaload, 0), (913, .aload_n 3, 0)]
def kc_Law_law_17 : mv_K := [(914, .invokestatic 143, 196), (917, .istore 5, 0), (919, .aload_n 2, 0), (920, .aload_n 0, 0), (921, .iload 4, 0), (923, .iconst 1, 0), (924, .iadd, 0), (925, .iaload, 0), (926, .aload_n 0, 0), (927, .iload 4, 0), (929, .iconst 2, 0), (930, .iadd, 0), (931, .iaload, 0), (932, .invokevirtual 145, 165), (935, .istore 6, 0), (937, .aload_n 2, 0), (938, .invokevirtual 91, 107), (941, .iload 5, 0), (943, .if_icmp .eq (5), 0), (946, .iconst 0, 0), (947, .ireturn, 0), (948, .iload 5, 0), (950, .ifCond .ne (15), 0), (953, .aload_n 3, 0), (954, .iconst 0, 0), (955, .laload, 0), (956, .iload 6, 0), (958, .i2l, 0), (959, .lcmp, 0), (960, .ifCond .eq (5), 0)]
def kc_Law_law_18 : mv_K := [(963, .iconst 0, 0), (964, .ireturn, 0), (965, .goto (566), 0), (968, .aload_n 1, 0), (969, .aload_n 3, 0), (970, .invokestatic 146, 197), (973, .istore 5, 0), (975, .aload_n 2, 0), (976, .invokevirtual 148, 166), (979, .istore 6, 0), (981, .aload_n 2, 0), (982, .invokevirtual 91, 107), (985, .iload 5, 0), (987, .if_icmp .eq (5), 0), (990, .iconst 0, 0), (991, .ireturn, 0), (992, .iload 5, 0), (994, .ifCond .ne (15), 0), (997, .aload_n 3, 0), (998, .iconst 0, 0), (999, .laload, 0), (1000, .iload 6, 0), (1002, .i2l, 0), (1003, .lcmp, 0), (1004, .ifCond .eq (5), 0), (1007, .iconst 0, 0), (1008, .ireturn, 0), (1009, .goto (522), 0), (1012, .aload_n 1, 0), (1013, .aload_n 3, 0)]
def kc_Law_law_19 : mv_K := [(1014, .invokestatic 149, 198), (1017, .istore 5, 0), (1019, .aload_n 2, 0), (1020, .invokevirtual 151, 168), (1023, .istore 6, 0), (1025, .aload_n 2, 0), (1026, .invokevirtual 91, 107), (1029, .iload 5, 0), (1031, .if_icmp .eq (5), 0), (1034, .iconst 0, 0), (1035, .ireturn, 0), (1036, .iload 5, 0), (1038, .ifCond .ne (15), 0), (1041, .aload_n 3, 0), (1042, .iconst 0, 0), (1043, .laload, 0), (1044, .iload 6, 0), (1046, .i2l, 0), (1047, .lcmp, 0), (1048, .ifCond .eq (5), 0), (1051, .iconst 0, 0), (1052, .ireturn, 0), (1053, .goto (478), 0), (1056, .aload_n 1, 0), (1057, .invokevirtual 152, 47), (1060, .aload_n 2, 0), (1061, .invokevirtual 155, 169), (1064, .if_icmp .eq (467), 0), (1067, .iconst 0, 0), (1068, .ireturn, 0)]
def kc_Law_law_20 : mv_K := [(1069, .aload_n 1, 0), (1070, .invokevirtual 156, 48), (1073, .aload_n 2, 0), (1074, .invokevirtual 159, 170), (1077, .if_icmp .eq (454), 0), (1080, .iconst 0, 0), (1081, .ireturn, 0), (1082, .aload_n 1, 0), (1083, .invokevirtual 160, 49), (1086, .aload_n 2, 0), (1087, .invokevirtual 163, 171), (1090, .if_icmp .eq (441), 0), (1093, .iconst 0, 0), (1094, .ireturn, 0), (1095, .aload_n 1, 0), (1096, .aload_n 0, 0), (1097, .iload 4, 0), (1099, .iconst 1, 0), (1100, .iadd, 0), (1101, .iaload, 0), (1102, .aload_n 0, 0), (1103, .iload 4, 0), (1105, .iconst 2, 0), (1106, .iadd, 0), (1107, .iaload, 0), (1108, .aload_n 3, 0), (1109, .invokestatic 164, 199), (1112, .istore 5, 0), (1114, .aload_n 2, 0), (1115, .aload_n 0, 0)]
def kc_Law_law_21 : mv_K := [(1116, .iload 4, 0), (1118, .iconst 1, 0), (1119, .iadd, 0), (1120, .iaload, 0), (1121, .aload_n 0, 0), (1122, .iload 4, 0), (1124, .iconst 2, 0), (1125, .iadd, 0), (1126, .iaload, 0), (1127, .invokevirtual 166, 172), (1130, .istore 6, 0), (1132, .aload_n 2, 0), (1133, .invokevirtual 91, 107), (1136, .iload 5, 0), (1138, .if_icmp .eq (5), 0), (1141, .iconst 0, 0), (1142, .ireturn, 0), (1143, .iload 5, 0), (1145, .ifCond .ne (15), 0), (1148, .aload_n 3, 0), (1149, .iconst 0, 0), (1150, .laload, 0), (1151, .iload 6, 0), (1153, .i2l, 0), (1154, .lcmp, 0), (1155, .ifCond .eq (5), 0), (1158, .iconst 0, 0), (1159, .ireturn, 0), (1160, .goto (371), 0), (1163, .aload_n 1, 0)]
def kc_Law_law_22 : mv_K := [(1164, .aload_n 0, 0), (1165, .iload 4, 0), (1167, .iconst 1, 0), (1168, .iadd, 0), (1169, .iaload, 0), (1170, .aload_n 3, 0), (1171, .invokestatic 167, 200), (1174, .istore 5, 0), (1176, .aload_n 2, 0), (1177, .aload_n 0, 0), (1178, .iload 4, 0), (1180, .iconst 1, 0), (1181, .iadd, 0), (1182, .iaload, 0), (1183, .invokevirtual 169, 176), (1186, .istore 6, 0), (1188, .aload_n 2, 0), (1189, .invokevirtual 91, 107), (1192, .iload 5, 0), (1194, .if_icmp .eq (5), 0), (1197, .iconst 0, 0), (1198, .ireturn, 0), (1199, .iload 5, 0), (1201, .ifCond .ne (15), 0), (1204, .aload_n 3, 0), (1205, .iconst 0, 0), (1206, .laload, 0), (1207, .iload 6, 0), (1209, .i2l, 0), (1210, .lcmp, 0)]
def kc_Law_law_23 : mv_K := [(1211, .ifCond .eq (5), 0), (1214, .iconst 0, 0), (1215, .ireturn, 0), (1216, .goto (315), 0), (1219, .aload_n 1, 0), (1220, .aload_n 0, 0), (1221, .iload 4, 0), (1223, .iconst 1, 0), (1224, .iadd, 0), (1225, .iaload, 0), (1226, .aload_n 0, 0), (1227, .iload 4, 0), (1229, .iconst 2, 0), (1230, .iadd, 0), (1231, .iaload, 0), (1232, .i2l, 0), (1233, .bipush (32), 0), (1235, .lshl, 0), (1236, .aload_n 0, 0), (1237, .iload 4, 0), (1239, .iconst 3, 0), (1240, .iadd, 0), (1241, .iaload, 0), (1242, .i2l, 0), (1243, .ldc2_w 170, 4294967295), (1246, .land, 0), (1247, .lor, 0), (1248, .aload_n 3, 0), (1249, .invokestatic 172, 201), (1252, .istore 5, 0)]
def kc_Law_law_24 : mv_K := [(1254, .aload_n 2, 0), (1255, .aload_n 0, 0), (1256, .iload 4, 0), (1258, .iconst 1, 0), (1259, .iadd, 0), (1260, .iaload, 0), (1261, .aload_n 0, 0), (1262, .iload 4, 0), (1264, .iconst 2, 0), (1265, .iadd, 0), (1266, .iaload, 0), (1267, .i2l, 0), (1268, .bipush (32), 0), (1270, .lshl, 0), (1271, .aload_n 0, 0), (1272, .iload 4, 0), (1274, .iconst 3, 0), (1275, .iadd, 0), (1276, .iaload, 0), (1277, .i2l, 0), (1278, .ldc2_w 170, 4294967295), (1281, .land, 0), (1282, .lor, 0), (1283, .invokevirtual 175, 177), (1286, .istore 6, 0), (1288, .aload_n 2, 0), (1289, .invokevirtual 91, 107), (1292, .iload 5, 0), (1294, .if_icmp .eq (5), 0), (1297, .iconst 0, 0)]
def kc_Law_law_25 : mv_K := [(1298, .ireturn, 0), (1299, .iload 5, 0), (1301, .ifCond .ne (15), 0), (1304, .aload_n 3, 0), (1305, .iconst 0, 0), (1306, .laload, 0), (1307, .iload 6, 0), (1309, .i2l, 0), (1310, .lcmp, 0), (1311, .ifCond .eq (5), 0), (1314, .iconst 0, 0), (1315, .ireturn, 0), (1316, .goto (215), 0), (1319, .aload_n 1, 0), (1320, .aload_n 0, 0), (1321, .iload 4, 0), (1323, .iconst 1, 0), (1324, .iadd, 0), (1325, .iaload, 0), (1326, .i2l, 0), (1327, .bipush (32), 0), (1329, .lshl, 0), (1330, .aload_n 0, 0), (1331, .iload 4, 0), (1333, .iconst 2, 0), (1334, .iadd, 0), (1335, .iaload, 0), (1336, .i2l, 0), (1337, .ldc2_w 170, 4294967295), (1340, .land, 0)]
def kc_Law_law_26 : mv_K := [(1341, .lor, 0), (1342, .aload_n 0, 0), (1343, .iload 4, 0), (1345, .iconst 3, 0), (1346, .iadd, 0), (1347, .iaload, 0), (1348, .aload_n 3, 0), (1349, .invokestatic 176, 202), (1352, .istore 5, 0), (1354, .aload_n 2, 0), (1355, .aload_n 0, 0), (1356, .iload 4, 0), (1358, .iconst 1, 0), (1359, .iadd, 0), (1360, .iaload, 0), (1361, .i2l, 0), (1362, .bipush (32), 0), (1364, .lshl, 0), (1365, .aload_n 0, 0), (1366, .iload 4, 0), (1368, .iconst 2, 0), (1369, .iadd, 0), (1370, .iaload, 0), (1371, .i2l, 0), (1372, .ldc2_w 170, 4294967295), (1375, .land, 0), (1376, .lor, 0), (1377, .aload_n 0, 0), (1378, .iload 4, 0), (1380, .iconst 3, 0)]
def kc_Law_law_27 : mv_K := [(1381, .iadd, 0), (1382, .iaload, 0), (1383, .invokevirtual 179, 179), (1386, .istore 6, 0), (1388, .aload_n 2, 0), (1389, .invokevirtual 91, 107), (1392, .iload 5, 0), (1394, .if_icmp .eq (5), 0), (1397, .iconst 0, 0), (1398, .ireturn, 0), (1399, .iload 5, 0), (1401, .ifCond .ne (15), 0), (1404, .aload_n 3, 0), (1405, .iconst 0, 0), (1406, .laload, 0), (1407, .iload 6, 0), (1409, .i2l, 0), (1410, .lcmp, 0), (1411, .ifCond .eq (5), 0), (1414, .iconst 0, 0), (1415, .ireturn, 0), (1416, .goto (115), 0), (1419, .aload_n 1, 0), (1420, .aload_n 0, 0), (1421, .iload 4, 0), (1423, .iconst 1, 0), (1424, .iadd, 0), (1425, .iaload, 0), (1426, .aload_n 3, 0), (1427, .invokestatic 180, 203)]
def kc_Law_law_28 : mv_K := [(1430, .istore 5, 0), (1432, .aload_n 2, 0), (1433, .aload_n 0, 0), (1434, .iload 4, 0), (1436, .iconst 1, 0), (1437, .iadd, 0), (1438, .iaload, 0), (1439, .invokevirtual 182, 183), (1442, .istore 6, 0), (1444, .aload_n 2, 0), (1445, .invokevirtual 91, 107), (1448, .iload 5, 0), (1450, .if_icmp .eq (5), 0), (1453, .iconst 0, 0), (1454, .ireturn, 0), (1455, .iload 5, 0), (1457, .ifCond .ne (15), 0), (1460, .aload_n 3, 0), (1461, .iconst 0, 0), (1462, .laload, 0), (1463, .iload 6, 0), (1465, .i2l, 0), (1466, .lcmp, 0), (1467, .ifCond .eq (5), 0), (1470, .iconst 0, 0), (1471, .ireturn, 0), (1472, .goto (59), 0), (1475, .aload_n 1, 0), (1476, .aload_n 0, 0), (1477, .iload 4, 0)]
def kc_Law_law_29 : mv_K := [(1479, .iconst 1, 0), (1480, .iadd, 0), (1481, .iaload, 0), (1482, .aload_n 3, 0), (1483, .invokestatic 183, 204), (1486, .istore 5, 0), (1488, .aload_n 2, 0), (1489, .aload_n 0, 0), (1490, .iload 4, 0), (1492, .iconst 1, 0), (1493, .iadd, 0), (1494, .iaload, 0), (1495, .invokevirtual 185, 184), (1498, .istore 6, 0), (1500, .aload_n 2, 0), (1501, .invokevirtual 91, 107), (1504, .iload 5, 0), (1506, .if_icmp .eq (5), 0), (1509, .iconst 0, 0), (1510, .ireturn, 0), (1511, .iload 5, 0), (1513, .ifCond .ne (15), 0), (1516, .aload_n 3, 0), (1517, .iconst 0, 0), (1518, .laload, 0), (1519, .iload 6, 0), (1521, .i2l, 0), (1522, .lcmp, 0), (1523, .ifCond .eq (5), 0), (1526, .iconst 0, 0)]
def kc_Law_law_30 : mv_K := [(1527, .ireturn, 0), (1528, .goto (3), 0), (1531, .iinc 4 (4), 0), (1534, .goto (-1511), 0), (1537, .iconst 1, 0), (1538, .ireturn, 0)]
def kc_Law_law : mv_K := kc_Law_law_0 ++ (kc_Law_law_1 ++ (kc_Law_law_2 ++ (kc_Law_law_3 ++ (kc_Law_law_4 ++ (kc_Law_law_5 ++ (kc_Law_law_6 ++ (kc_Law_law_7 ++ (kc_Law_law_8 ++ (kc_Law_law_9 ++ (kc_Law_law_10 ++ (kc_Law_law_11 ++ (kc_Law_law_12 ++ (kc_Law_law_13 ++ (kc_Law_law_14 ++ (kc_Law_law_15 ++ (kc_Law_law_16 ++ (kc_Law_law_17 ++ (kc_Law_law_18 ++ (kc_Law_law_19 ++ (kc_Law_law_20 ++ (kc_Law_law_21 ++ (kc_Law_law_22 ++ (kc_Law_law_23 ++ (kc_Law_law_24 ++ (kc_Law_law_25 ++ (kc_Law_law_26 ++ (kc_Law_law_27 ++ (kc_Law_law_28 ++ (kc_Law_law_29 ++ (kc_Law_law_30))))))))))))))))))))))))))))))
/-- a method: its code, how many values it takes, its locals, what it gives (0 int, 1 long, 2 a reference, 3 nothing, 4 boolean), the class of its receiver, its handlers -/
abbrev mv_M : Type := mv_K × Nat × Nat × Nat × Nat × List (Nat × Nat × Nat × Nat)
def mv_tab : List mv_M := [(kc_Math_floorMod, 2, 3, 0, 9, []),
  (kc_Math_max, 2, 2, 0, 9, []),
  (kc_Math_min, 2, 2, 0, 9, []),
  (kc_Obj_init, 1, 1, 3, 9, []),
  (kc_Line_init, 1, 1, 3, 1, []),
  (kc_Line_clear, 1, 1, 3, 1, []),
  (kc_Line_addCharacter, 2, 4, 4, 1, []),
  (kc_Line_growsLastPiece, 2, 2, 4, 1, []),
  (kc_Line_kindAt, 2, 2, 0, 1, []),
  (kc_Line_isWrittenLike, 4, 7, 4, 1, []),
  (kc_Line_sizeAt, 2, 2, 0, 1, []),
  (kc_Line_valueAt, 2, 2, 0, 1, []),
  (kc_Line_characterAt, 2, 2, 0, 1, []),
  (kc_Line_startAt, 2, 2, 0, 1, []),
  (kc_Line_addNumber, 2, 3, 3, 1, []),
  (kc_State_init, 2, 3, 3, 2, []),
  (kc_State_copyFrom, 2, 3, 3, 2, []),
  (kc_State_sampleAt, 2, 2, 2, 2, []),
  (kc_State_kindIn, 3, 3, 0, 2, []),
  (kc_State_isOpen, 3, 3, 4, 2, []),
  (kc_State_openWord, 3, 3, 3, 2, []),
  (kc_State_moveLines, 3, 4, 3, 2, []),
  (kc_State_dropTemplate, 2, 3, 3, 2, []),
  (kc_State_firstFit, 2, 3, 0, 2, []),
  (kc_State_fits, 3, 5, 4, 2, []),
  (kc_State_lastOf, 3, 4, 0, 2, []),
  (kc_State_lineAt, 2, 2, 2, 2, []),
  (kc_State_templateAt, 2, 2, 0, 2, []),
  (kc_State_firstOf, 2, 3, 0, 2, []),
  (kc_State_templateFor, 2, 3, 0, 2, []),
  (kc_State_put, 3, 3, 3, 2, []),
  (kc_State_dropLine, 2, 4, 3, 2, []),
  (kc_State_hasLine, 2, 2, 4, 2, []),
  (kc_State_takeLinesOf, 2, 5, 4, 2, []),
  (kc_Hist_init, 2, 3, 3, 3, []),
  (kc_Hist_remember, 2, 2, 3, 3, []),
  (kc_Hist_placeBehindOldest, 2, 2, 0, 3, []),
  (kc_Hist_takeBack, 2, 2, 3, 3, []),
  (kc_Hist_forgetAll, 1, 1, 3, 3, []),
  (kc_LT_init, 1, 3, 3, 0, []),
  (kc_LT_clearText, 1, 2, 0, 0, []),
  (kc_LT_errorPosition, 1, 1, 0, 0, []),
  (kc_LT_readText, 2, 3, 0, 0, []),
  (kc_LT_kindOfCharacter, 1, 1, 0, 0, []),
  (kc_LT_learn, 1, 1, 0, 0, []),
  (kc_LT_isSlot, 1, 1, 4, 0, []),
  (kc_LT_learnAll, 1, 1, 0, 0, []),
  (kc_LT_which, 1, 1, 0, 0, []),
  (kc_LT_wouldCost, 1, 1, 0, 0, []),
  (kc_LT_saves, 1, 1, 0, 0, []),
  (kc_LT_append, 2, 2, 0, 0, []),
  (kc_LT_about, 2, 2, 0, 0, []),
  (kc_LT_line, 3, 3, 0, 0, []),
  (kc_LT_checkLine, 2, 2, 3, 0, []),
  (kc_LT_charAt, 3, 3, 0, 0, []),
  (kc_LT_value, 3, 3, 0, 0, []),
  (kc_LT_checkPiece, 2, 2, 3, 0, []),
  (kc_LT_template, 3, 3, 0, 0, []),
  (kc_LT_checkTemplate, 2, 2, 3, 0, []),
  (kc_LT_piece, 4, 5, 0, 0, []),
  (kc_LT_rises, 3, 3, 0, 0, []),
  (kc_LT_take, 1, 3, 0, 0, []),
  (kc_LT_again, 2, 4, 0, 0, []),
  (kc_LT_remove, 2, 2, 0, 0, []),
  (kc_LT_open, 3, 3, 0, 0, []),
  (kc_LT_forget, 1, 1, 0, 0, []),
  (kc_LT_undo, 1, 1, 0, 0, []),
  (kc_LT_next, 3, 3, 0, 0, []),
  (kc_LT_countDigits, 1, 3, 0, 0, []),
  (kc_LT_digitCharacter, 2, 4, 0, 0, []),
  (kc_LT_withValue, 2, 2, 0, 0, []),
  (kc_LT_runScript, 3, 6, 0, 0, []),
  (kc_LT_simulate, 3, 4, 0, 0, []),
  (kc_LT_simulateLines, 3, 12, 3, 0, []),
  (kc_LT_writeSimulated, 3, 4, 3, 0, []),
  (kc_LT_save, 2, 2, 0, 0, []),
  (kc_LT_checkSlot, 1, 1, 3, 0, []),
  (kc_LT_restore, 2, 2, 0, 0, []),
  (kc_Costs_ofLineAt, 4, 7, 0, 9, []),
  (kc_Costs_ofNumber, 4, 5, 0, 9, []),
  (kc_Costs_ofAll, 1, 1, 0, 9, []),
  (kc_Costs_ofLines, 1, 3, 0, 9, []),
  (kc_Costs_ofTemplates, 1, 3, 0, 9, []),
  (kc_Costs_ofTemplate, 2, 5, 0, 9, []),
  (kc_Counts_isSeenBefore, 5, 8, 4, 9, []),
  (kc_Counts_charactersOfLines, 1, 3, 0, 9, []),
  (kc_Counts_slotsOfTemplates, 2, 4, 0, 9, []),
  (kc_Counts_slotsOfTemplate, 3, 5, 0, 9, []),
  (kc_Counts_differentWords, 1, 5, 0, 9, []),
  (kc_Counts_isWordBefore, 3, 8, 4, 9, []),
  (kc_Counts_linesBefore, 3, 5, 0, 9, []),
  (kc_Counts_differentThings, 3, 5, 0, 9, []),
  (kc_Counts_risingLines, 3, 8, 0, 9, []),
  (kc_Counts_linesWithValue, 2, 4, 0, 9, []),
  (kc_Counts_hasValue, 2, 3, 4, 9, []),
  (kc_Exp_valueBehind, 3, 5, 0, 9, []),
  (kc_Exp_characterAt, 3, 10, 0, 9, []),
  (kc_Exp_digitsFor, 2, 2, 0, 9, []),
  (kc_Learn_learnFirstPair, 1, 4, 0, 9, []),
  (kc_Learn_onlyDifference, 3, 8, 0, 9, []),
  (kc_Learn_learnAllPairs, 1, 2, 3, 9, []),
  (kc_Scr_withoutLowestGroups, 2, 6, 1, 9, []),
  (kc_Scr_succeeds, 3, 6, 4, 9, []),
  (kc_Scr_takesAgain, 2, 4, 4, 9, []),
  (kc_Scr_removes, 2, 2, 4, 9, []),
  (kc_Scr_opens, 3, 3, 4, 9, []),
  (kc_Mod_init, 1, 1, 3, 4, []),
  (kc_Mod_thrown, 1, 1, 0, 4, []),
  (kc_Mod_append, 2, 2, 0, 4, []),
  (kc_Mod_in, 3, 6, 4, 4, []),
  (kc_Mod_refused, 2, 2, 4, 4, []),
  (kc_Mod_clearText, 1, 2, 0, 4, []),
  (kc_Mod_errorPosition, 1, 1, 0, 4, []),
  (kc_Mod_wrong, 1, 7, 0, 4, []),
  (kc_Mod_signKind, 1, 1, 0, 4, []),
  (kc_Mod_about, 2, 4, 0, 4, []),
  (kc_Mod_lineAt, 1, 1, 0, 4, []),
  (kc_Mod_costOfLines, 2, 4, 0, 4, []),
  (kc_Mod_costOfLine, 3, 7, 0, 4, []),
  (kc_Mod_templateAt, 1, 1, 0, 4, []),
  (kc_Mod_kindOf, 3, 3, 0, 4, []),
  (kc_Mod_numberCost, 5, 12, 0, 4, []),
  (kc_Mod_lineBefore, 3, 4, 0, 4, []),
  (kc_Mod_cut, 4, 8, 0, 4, []),
  (kc_Mod_valueAt, 3, 5, 0, 4, []),
  (kc_Mod_wordCost, 5, 6, 0, 4, []),
  (kc_Mod_areSame, 4, 6, 4, 4, []),
  (kc_Mod_costOfTemplates, 2, 4, 0, 4, []),
  (kc_Mod_costOfTemplate, 3, 5, 0, 4, []),
  (kc_Mod_firstLine, 2, 3, 0, 4, []),
  (kc_Mod_differentWords, 2, 6, 0, 4, []),
  (kc_Mod_isNewWord, 4, 7, 4, 4, []),
  (kc_Mod_slots, 3, 5, 0, 4, []),
  (kc_Mod_line, 3, 4, 0, 4, []),
  (kc_Mod_isLine, 2, 2, 4, 4, []),
  (kc_Mod_linesOf, 3, 5, 0, 4, []),
  (kc_Mod_charAt, 3, 3, 0, 4, []),
  (kc_Mod_value, 3, 3, 0, 4, []),
  (kc_Mod_template, 3, 3, 0, 4, []),
  (kc_Mod_isTemplate, 2, 2, 4, 4, []),
  (kc_Mod_piece, 4, 7, 0, 4, []),
  (kc_Mod_isPiece, 3, 3, 4, 4, []),
  (kc_Mod_isNewThing, 5, 7, 4, 4, []),
  (kc_Mod_rises, 3, 9, 0, 4, []),
  (kc_Mod_lastLine, 2, 2, 0, 4, []),
  (kc_Mod_take, 1, 1, 0, 4, []),
  (kc_Mod_layText, 2, 4, 3, 4, []),
  (kc_Mod_canSettle, 2, 2, 4, 4, []),
  (kc_Mod_templateFor, 3, 4, 0, 4, []),
  (kc_Mod_fits, 4, 8, 4, 4, []),
  (kc_Mod_remember, 1, 2, 3, 4, []),
  (kc_Mod_copyLog, 4, 5, 3, 4, []),
  (kc_Mod_settle, 2, 4, 0, 4, []),
  (kc_Mod_addTemplate, 3, 6, 3, 4, []),
  (kc_Mod_again, 2, 2, 0, 4, []),
  (kc_Mod_againOn, 3, 3, 0, 4, []),
  (kc_Mod_layAgain, 2, 4, 3, 4, []),
  (kc_Mod_remove, 2, 2, 0, 4, []),
  (kc_Mod_removeOn, 2, 4, 0, 4, []),
  (kc_Mod_cutTemplate, 2, 3, 3, 4, []),
  (kc_Mod_learn, 1, 1, 0, 4, []),
  (kc_Mod_learnOn, 2, 6, 0, 4, []),
  (kc_Mod_partsAt, 4, 11, 0, 4, []),
  (kc_Mod_learnAll, 1, 1, 0, 4, []),
  (kc_Mod_learnAllOn, 2, 3, 0, 4, []),
  (kc_Mod_open, 3, 3, 0, 4, []),
  (kc_Mod_forget, 1, 1, 0, 4, []),
  (kc_Mod_anew, 2, 4, 4, 4, []),
  (kc_Mod_undo, 1, 1, 0, 4, []),
  (kc_Mod_which, 1, 1, 0, 4, []),
  (kc_Mod_wouldCost, 1, 1, 0, 4, []),
  (kc_Mod_saves, 1, 1, 0, 4, []),
  (kc_Mod_next, 3, 3, 0, 4, []),
  (kc_Mod_layAhead, 2, 8, 3, 4, []),
  (kc_Mod_digitsOf, 1, 3, 0, 4, []),
  (kc_Mod_write, 3, 5, 3, 4, []),
  (kc_Mod_withValue, 2, 7, 0, 4, []),
  (kc_Mod_runScript, 3, 8, 0, 4, []),
  (kc_Mod_command, 4, 6, 4, 4, []),
  (kc_Mod_simulate, 3, 9, 0, 4, []),
  (kc_Mod_layDrawn, 3, 5, 3, 4, []),
  (kc_Mod_laySign, 2, 2, 3, 4, []),
  (kc_Mod_layDigits, 2, 2, 3, 4, []),
  (kc_Mod_save, 2, 2, 0, 4, []),
  (kc_Mod_restore, 2, 2, 0, 4, []),
  (kc_Law_append, 3, 4, 0, 9, [(0, 9, 12, 0), (0, 9, 15, 1)]),
  (kc_Law_about, 3, 4, 0, 9, [(0, 9, 12, 0)]),
  (kc_Law_line, 4, 5, 0, 9, [(0, 10, 13, 2), (0, 10, 17, 0)]),
  (kc_Law_charAt, 4, 5, 0, 9, [(0, 10, 13, 2), (0, 10, 17, 0)]),
  (kc_Law_value, 4, 5, 0, 9, [(0, 10, 13, 2)]),
  (kc_Law_template, 4, 5, 0, 9, [(0, 10, 13, 2), (0, 10, 17, 0)]),
  (kc_Law_piece, 5, 6, 0, 9, [(0, 12, 15, 2), (0, 12, 19, 0)]),
  (kc_Law_rises, 4, 5, 0, 9, [(0, 10, 13, 2)]),
  (kc_Law_take, 2, 3, 0, 9, [(0, 8, 11, 1)]),
  (kc_Law_again, 3, 4, 0, 9, [(0, 9, 12, 2), (0, 9, 15, 1)]),
  (kc_Law_remove, 3, 4, 0, 9, [(0, 9, 12, 2)]),
  (kc_Law_open, 4, 5, 0, 9, [(0, 10, 13, 2), (0, 10, 17, 1)]),
  (kc_Law_forget, 2, 3, 0, 9, [(0, 8, 11, 1)]),
  (kc_Law_undo, 2, 3, 0, 9, [(0, 8, 11, 1)]),
  (kc_Law_next, 4, 5, 0, 9, [(0, 10, 13, 2), (0, 10, 17, 0)]),
  (kc_Law_withValue, 3, 4, 0, 9, [(0, 9, 12, 0)]),
  (kc_Law_runScript, 4, 6, 0, 9, [(0, 11, 14, 0)]),
  (kc_Law_simulate, 4, 6, 0, 9, [(0, 11, 14, 0)]),
  (kc_Law_save, 3, 4, 0, 9, [(0, 9, 12, 2)]),
  (kc_Law_restore, 3, 4, 0, 9, [(0, 9, 12, 2), (0, 9, 15, 1)]),
  (kc_Law_law, 1, 7, 4, 9, [])]
def mv_m (y : Nat) : mv_M := mv_tab.getD y ([], 0, 0, 0, 0, [])
end
section
/-! the same methods on the real machine: names, bytes, rooms, words by their places; written by wip/whole/emitreal.py -/
def mv_ys : List (MethodName) := [⟨"java/lang/Math", "floorMod", "(II)I"⟩,
  ⟨"java/lang/Math", "max", "(II)I"⟩,
  ⟨"java/lang/Math", "min", "(II)I"⟩,
  ⟨"java/lang/Object", "<init>", "()V"⟩,
  ⟨"LineTemplates$Line", "<init>", "()V"⟩,
  ⟨"LineTemplates$Line", "clear", "()V"⟩,
  ⟨"LineTemplates$Line", "addCharacter", "(I)Z"⟩,
  ⟨"LineTemplates$Line", "growsLastPiece", "(I)Z"⟩,
  ⟨"LineTemplates$Line", "kindAt", "(I)I"⟩,
  ⟨"LineTemplates$Line", "isWrittenLike", "(ILLineTemplates$Line;I)Z"⟩,
  ⟨"LineTemplates$Line", "sizeAt", "(I)I"⟩,
  ⟨"LineTemplates$Line", "valueAt", "(I)I"⟩,
  ⟨"LineTemplates$Line", "characterAt", "(I)I"⟩,
  ⟨"LineTemplates$Line", "startAt", "(I)I"⟩,
  ⟨"LineTemplates$Line", "addNumber", "(I)V"⟩,
  ⟨"LineTemplates$State", "<init>", "(LLineTemplates$Line;)V"⟩,
  ⟨"LineTemplates$State", "copyFrom", "(LLineTemplates$State;)V"⟩,
  ⟨"LineTemplates$State", "sampleAt", "(I)LLineTemplates$Line;"⟩,
  ⟨"LineTemplates$State", "kindIn", "(II)I"⟩,
  ⟨"LineTemplates$State", "isOpen", "(II)Z"⟩,
  ⟨"LineTemplates$State", "openWord", "(II)V"⟩,
  ⟨"LineTemplates$State", "moveLines", "(II)V"⟩,
  ⟨"LineTemplates$State", "dropTemplate", "(I)V"⟩,
  ⟨"LineTemplates$State", "firstFit", "(LLineTemplates$Line;)I"⟩,
  ⟨"LineTemplates$State", "fits", "(LLineTemplates$Line;I)Z"⟩,
  ⟨"LineTemplates$State", "lastOf", "(II)I"⟩,
  ⟨"LineTemplates$State", "lineAt", "(I)LLineTemplates$Line;"⟩,
  ⟨"LineTemplates$State", "templateAt", "(I)I"⟩,
  ⟨"LineTemplates$State", "firstOf", "(I)I"⟩,
  ⟨"LineTemplates$State", "templateFor", "(LLineTemplates$Line;)I"⟩,
  ⟨"LineTemplates$State", "put", "(LLineTemplates$Line;I)V"⟩,
  ⟨"LineTemplates$State", "dropLine", "(I)V"⟩,
  ⟨"LineTemplates$State", "hasLine", "(I)Z"⟩,
  ⟨"LineTemplates$State", "takeLinesOf", "(LLineTemplates$State;)Z"⟩,
  ⟨"LineTemplates$History", "<init>", "(LLineTemplates$Line;)V"⟩,
  ⟨"LineTemplates$History", "remember", "(LLineTemplates$State;)V"⟩,
  ⟨"LineTemplates$History", "placeBehindOldest", "(I)I"⟩,
  ⟨"LineTemplates$History", "takeBack", "(LLineTemplates$State;)V"⟩,
  ⟨"LineTemplates$History", "forgetAll", "()V"⟩,
  ⟨"LineTemplates", "<init>", "()V"⟩,
  ⟨"LineTemplates", "clearText", "()I"⟩,
  ⟨"LineTemplates", "errorPosition", "()I"⟩,
  ⟨"LineTemplates", "readText", "(LLineTemplates$Line;)I"⟩,
  ⟨"LineTemplates", "kindOfCharacter", "(I)I"⟩,
  ⟨"LineTemplates", "learn", "()I"⟩,
  ⟨"LineTemplates", "isSlot", "(I)Z"⟩,
  ⟨"LineTemplates", "learnAll", "()I"⟩,
  ⟨"LineTemplates", "which", "()I"⟩,
  ⟨"LineTemplates", "wouldCost", "()I"⟩,
  ⟨"LineTemplates", "saves", "()I"⟩,
  ⟨"LineTemplates", "append", "(I)I"⟩,
  ⟨"LineTemplates", "about", "(I)I"⟩,
  ⟨"LineTemplates", "line", "(II)I"⟩,
  ⟨"LineTemplates", "checkLine", "(I)V"⟩,
  ⟨"LineTemplates", "charAt", "(II)I"⟩,
  ⟨"LineTemplates", "value", "(II)I"⟩,
  ⟨"LineTemplates", "checkPiece", "(LLineTemplates$Line;I)V"⟩,
  ⟨"LineTemplates", "template", "(II)I"⟩,
  ⟨"LineTemplates", "checkTemplate", "(I)V"⟩,
  ⟨"LineTemplates", "piece", "(III)I"⟩,
  ⟨"LineTemplates", "rises", "(II)I"⟩,
  ⟨"LineTemplates", "take", "()I"⟩,
  ⟨"LineTemplates", "again", "(I)I"⟩,
  ⟨"LineTemplates", "remove", "(I)I"⟩,
  ⟨"LineTemplates", "open", "(II)I"⟩,
  ⟨"LineTemplates", "forget", "()I"⟩,
  ⟨"LineTemplates", "undo", "()I"⟩,
  ⟨"LineTemplates", "next", "(II)I"⟩,
  ⟨"LineTemplates", "countDigits", "(I)I"⟩,
  ⟨"LineTemplates", "digitCharacter", "(II)I"⟩,
  ⟨"LineTemplates", "withValue", "(I)I"⟩,
  ⟨"LineTemplates", "runScript", "(IJ)I"⟩,
  ⟨"LineTemplates", "simulate", "(JI)I"⟩,
  ⟨"LineTemplates", "simulateLines", "(JI)V"⟩,
  ⟨"LineTemplates", "writeSimulated", "(LLineTemplates$Line;II)V"⟩,
  ⟨"LineTemplates", "save", "(I)I"⟩,
  ⟨"LineTemplates", "checkSlot", "(I)V"⟩,
  ⟨"LineTemplates", "restore", "(I)I"⟩,
  ⟨"LineTemplates$Costs", "ofLineAt", "(LLineTemplates$State;LLineTemplates$Line;II)I"⟩,
  ⟨"LineTemplates$Costs", "ofNumber", "(LLineTemplates$State;LLineTemplates$Line;II)I"⟩,
  ⟨"LineTemplates$Costs", "ofAll", "(LLineTemplates$State;)I"⟩,
  ⟨"LineTemplates$Costs", "ofLines", "(LLineTemplates$State;)I"⟩,
  ⟨"LineTemplates$Costs", "ofTemplates", "(LLineTemplates$State;)I"⟩,
  ⟨"LineTemplates$Costs", "ofTemplate", "(LLineTemplates$State;I)I"⟩,
  ⟨"LineTemplates$Counts", "isSeenBefore", "(LLineTemplates$State;LLineTemplates$Line;III)Z"⟩,
  ⟨"LineTemplates$Counts", "charactersOfLines", "(LLineTemplates$State;)I"⟩,
  ⟨"LineTemplates$Counts", "slotsOfTemplates", "(LLineTemplates$State;I)I"⟩,
  ⟨"LineTemplates$Counts", "slotsOfTemplate", "(LLineTemplates$State;II)I"⟩,
  ⟨"LineTemplates$Counts", "differentWords", "(LLineTemplates$State;)I"⟩,
  ⟨"LineTemplates$Counts", "isWordBefore", "(LLineTemplates$State;II)Z"⟩,
  ⟨"LineTemplates$Counts", "linesBefore", "(LLineTemplates$State;II)I"⟩,
  ⟨"LineTemplates$Counts", "differentThings", "(LLineTemplates$State;II)I"⟩,
  ⟨"LineTemplates$Counts", "risingLines", "(LLineTemplates$State;II)I"⟩,
  ⟨"LineTemplates$Counts", "linesWithValue", "(LLineTemplates$State;I)I"⟩,
  ⟨"LineTemplates$Counts", "hasValue", "(LLineTemplates$Line;I)Z"⟩,
  ⟨"LineTemplates$Expected", "valueBehind", "(LLineTemplates$State;II)I"⟩,
  ⟨"LineTemplates$Expected", "characterAt", "(LLineTemplates$State;II)I"⟩,
  ⟨"LineTemplates$Expected", "digitsFor", "(II)I"⟩,
  ⟨"LineTemplates$Learning", "learnFirstPair", "(LLineTemplates$State;)I"⟩,
  ⟨"LineTemplates$Learning", "onlyDifference", "(LLineTemplates$State;II)I"⟩,
  ⟨"LineTemplates$Learning", "learnAllPairs", "(LLineTemplates$State;)V"⟩,
  ⟨"LineTemplates$Script", "withoutLowestGroups", "(JI)J"⟩,
  ⟨"LineTemplates$Script", "succeeds", "(ILLineTemplates$State;LLineTemplates$State;)Z"⟩,
  ⟨"LineTemplates$Script", "takesAgain", "(LLineTemplates$State;I)Z"⟩,
  ⟨"LineTemplates$Script", "removes", "(LLineTemplates$State;I)Z"⟩,
  ⟨"LineTemplates$Script", "opens", "(LLineTemplates$State;II)Z"⟩,
  ⟨"LineTemplatesModel", "<init>", "()V"⟩,
  ⟨"LineTemplatesModel", "thrown", "()I"⟩,
  ⟨"LineTemplatesModel", "append", "(I)I"⟩,
  ⟨"LineTemplatesModel", "in", "(JJJ)Z"⟩,
  ⟨"LineTemplatesModel", "refused", "(I)Z"⟩,
  ⟨"LineTemplatesModel", "clearText", "()I"⟩,
  ⟨"LineTemplatesModel", "errorPosition", "()I"⟩,
  ⟨"LineTemplatesModel", "wrong", "()I"⟩,
  ⟨"LineTemplatesModel", "signKind", "(I)I"⟩,
  ⟨"LineTemplatesModel", "about", "(I)I"⟩,
  ⟨"LineTemplatesModel", "lineAt", "(I)I"⟩,
  ⟨"LineTemplatesModel", "costOfLines", "([I)I"⟩,
  ⟨"LineTemplatesModel", "costOfLine", "([II)I"⟩,
  ⟨"LineTemplatesModel", "templateAt", "(I)I"⟩,
  ⟨"LineTemplatesModel", "kindOf", "([III)I"⟩,
  ⟨"LineTemplatesModel", "numberCost", "([IIII)I"⟩,
  ⟨"LineTemplatesModel", "lineBefore", "([III)I"⟩,
  ⟨"LineTemplatesModel", "cut", "([III)I"⟩,
  ⟨"LineTemplatesModel", "valueAt", "([II)I"⟩,
  ⟨"LineTemplatesModel", "wordCost", "([IIII)I"⟩,
  ⟨"LineTemplatesModel", "areSame", "([III)Z"⟩,
  ⟨"LineTemplatesModel", "costOfTemplates", "([I)I"⟩,
  ⟨"LineTemplatesModel", "costOfTemplate", "([II)I"⟩,
  ⟨"LineTemplatesModel", "firstLine", "([II)I"⟩,
  ⟨"LineTemplatesModel", "differentWords", "([I)I"⟩,
  ⟨"LineTemplatesModel", "isNewWord", "([III)Z"⟩,
  ⟨"LineTemplatesModel", "slots", "([III)I"⟩,
  ⟨"LineTemplatesModel", "line", "(II)I"⟩,
  ⟨"LineTemplatesModel", "isLine", "([II)Z"⟩,
  ⟨"LineTemplatesModel", "linesOf", "([III)I"⟩,
  ⟨"LineTemplatesModel", "charAt", "(II)I"⟩,
  ⟨"LineTemplatesModel", "value", "(II)I"⟩,
  ⟨"LineTemplatesModel", "template", "(II)I"⟩,
  ⟨"LineTemplatesModel", "isTemplate", "([II)Z"⟩,
  ⟨"LineTemplatesModel", "piece", "(III)I"⟩,
  ⟨"LineTemplatesModel", "isPiece", "([III)Z"⟩,
  ⟨"LineTemplatesModel", "isNewThing", "([IIII)Z"⟩,
  ⟨"LineTemplatesModel", "rises", "(II)I"⟩,
  ⟨"LineTemplatesModel", "lastLine", "([II)I"⟩,
  ⟨"LineTemplatesModel", "take", "()I"⟩,
  ⟨"LineTemplatesModel", "layText", "([I)V"⟩,
  ⟨"LineTemplatesModel", "canSettle", "([I)Z"⟩,
  ⟨"LineTemplatesModel", "templateFor", "([II)I"⟩,
  ⟨"LineTemplatesModel", "fits", "([III)Z"⟩,
  ⟨"LineTemplatesModel", "remember", "()V"⟩,
  ⟨"LineTemplatesModel", "copyLog", "([II[II)V"⟩,
  ⟨"LineTemplatesModel", "settle", "([I)I"⟩,
  ⟨"LineTemplatesModel", "addTemplate", "([II)V"⟩,
  ⟨"LineTemplatesModel", "again", "(I)I"⟩,
  ⟨"LineTemplatesModel", "againOn", "([II)I"⟩,
  ⟨"LineTemplatesModel", "layAgain", "([II)V"⟩,
  ⟨"LineTemplatesModel", "remove", "(I)I"⟩,
  ⟨"LineTemplatesModel", "removeOn", "([II)I"⟩,
  ⟨"LineTemplatesModel", "cutTemplate", "([II)V"⟩,
  ⟨"LineTemplatesModel", "learn", "()I"⟩,
  ⟨"LineTemplatesModel", "learnOn", "([I)I"⟩,
  ⟨"LineTemplatesModel", "partsAt", "([III)I"⟩,
  ⟨"LineTemplatesModel", "learnAll", "()I"⟩,
  ⟨"LineTemplatesModel", "learnAllOn", "([I)I"⟩,
  ⟨"LineTemplatesModel", "open", "(II)I"⟩,
  ⟨"LineTemplatesModel", "forget", "()I"⟩,
  ⟨"LineTemplatesModel", "anew", "([I)Z"⟩,
  ⟨"LineTemplatesModel", "undo", "()I"⟩,
  ⟨"LineTemplatesModel", "which", "()I"⟩,
  ⟨"LineTemplatesModel", "wouldCost", "()I"⟩,
  ⟨"LineTemplatesModel", "saves", "()I"⟩,
  ⟨"LineTemplatesModel", "next", "(II)I"⟩,
  ⟨"LineTemplatesModel", "layAhead", "(I)V"⟩,
  ⟨"LineTemplatesModel", "digitsOf", "(I)I"⟩,
  ⟨"LineTemplatesModel", "write", "(II)V"⟩,
  ⟨"LineTemplatesModel", "withValue", "(I)I"⟩,
  ⟨"LineTemplatesModel", "runScript", "(IJ)I"⟩,
  ⟨"LineTemplatesModel", "command", "(III)Z"⟩,
  ⟨"LineTemplatesModel", "simulate", "(JI)I"⟩,
  ⟨"LineTemplatesModel", "layDrawn", "(II)V"⟩,
  ⟨"LineTemplatesModel", "laySign", "(I)V"⟩,
  ⟨"LineTemplatesModel", "layDigits", "(I)V"⟩,
  ⟨"LineTemplatesModel", "save", "(I)I"⟩,
  ⟨"LineTemplatesModel", "restore", "(I)I"⟩,
  ⟨"LineTemplatesLaw", "append", "(LLineTemplates;I[J)I"⟩,
  ⟨"LineTemplatesLaw", "about", "(LLineTemplates;I[J)I"⟩,
  ⟨"LineTemplatesLaw", "line", "(LLineTemplates;II[J)I"⟩,
  ⟨"LineTemplatesLaw", "charAt", "(LLineTemplates;II[J)I"⟩,
  ⟨"LineTemplatesLaw", "value", "(LLineTemplates;II[J)I"⟩,
  ⟨"LineTemplatesLaw", "template", "(LLineTemplates;II[J)I"⟩,
  ⟨"LineTemplatesLaw", "piece", "(LLineTemplates;III[J)I"⟩,
  ⟨"LineTemplatesLaw", "rises", "(LLineTemplates;II[J)I"⟩,
  ⟨"LineTemplatesLaw", "take", "(LLineTemplates;[J)I"⟩,
  ⟨"LineTemplatesLaw", "again", "(LLineTemplates;I[J)I"⟩,
  ⟨"LineTemplatesLaw", "remove", "(LLineTemplates;I[J)I"⟩,
  ⟨"LineTemplatesLaw", "open", "(LLineTemplates;II[J)I"⟩,
  ⟨"LineTemplatesLaw", "forget", "(LLineTemplates;[J)I"⟩,
  ⟨"LineTemplatesLaw", "undo", "(LLineTemplates;[J)I"⟩,
  ⟨"LineTemplatesLaw", "next", "(LLineTemplates;II[J)I"⟩,
  ⟨"LineTemplatesLaw", "withValue", "(LLineTemplates;I[J)I"⟩,
  ⟨"LineTemplatesLaw", "runScript", "(LLineTemplates;IJ[J)I"⟩,
  ⟨"LineTemplatesLaw", "simulate", "(LLineTemplates;JI[J)I"⟩,
  ⟨"LineTemplatesLaw", "save", "(LLineTemplates;I[J)I"⟩,
  ⟨"LineTemplatesLaw", "restore", "(LLineTemplates;I[J)I"⟩,
  ⟨"LineTemplatesLaw", "law", "([I)Z"⟩]
def mv_bs : List (ByteArray) := [prog_16_method_50_code,
  prog_16_method_65_code,
  prog_16_method_69_code,
  ⟨#[0xb1]⟩,
  prog_7_method_1_code,
  prog_7_method_2_code,
  prog_7_method_3_code,
  prog_7_method_4_code,
  prog_7_method_7_code,
  prog_7_method_11_code,
  prog_7_method_9_code,
  prog_7_method_10_code,
  prog_7_method_6_code,
  prog_7_method_8_code,
  prog_7_method_5_code,
  prog_9_method_1_code,
  prog_9_method_2_code,
  prog_9_method_6_code,
  prog_9_method_8_code,
  prog_9_method_7_code,
  prog_9_method_18_code,
  prog_9_method_19_code,
  prog_9_method_17_code,
  prog_9_method_12_code,
  prog_9_method_11_code,
  prog_9_method_10_code,
  prog_9_method_4_code,
  prog_9_method_5_code,
  prog_9_method_9_code,
  prog_9_method_13_code,
  prog_9_method_14_code,
  prog_9_method_16_code,
  prog_9_method_3_code,
  prog_9_method_15_code,
  prog_5_method_1_code,
  prog_5_method_2_code,
  prog_5_method_5_code,
  prog_5_method_3_code,
  prog_5_method_4_code,
  prog_1_method_1_code,
  prog_1_method_3_code,
  prog_1_method_4_code,
  prog_1_method_33_code,
  prog_1_method_37_code,
  prog_1_method_15_code,
  prog_1_method_36_code,
  prog_1_method_16_code,
  prog_1_method_20_code,
  prog_1_method_21_code,
  prog_1_method_22_code,
  prog_1_method_2_code,
  prog_1_method_5_code,
  prog_1_method_6_code,
  prog_1_method_29_code,
  prog_1_method_7_code,
  prog_1_method_8_code,
  prog_1_method_31_code,
  prog_1_method_9_code,
  prog_1_method_30_code,
  prog_1_method_10_code,
  prog_1_method_11_code,
  prog_1_method_12_code,
  prog_1_method_13_code,
  prog_1_method_14_code,
  prog_1_method_17_code,
  prog_1_method_18_code,
  prog_1_method_19_code,
  prog_1_method_23_code,
  prog_1_method_38_code,
  prog_1_method_39_code,
  prog_1_method_24_code,
  prog_1_method_25_code,
  prog_1_method_26_code,
  prog_1_method_34_code,
  prog_1_method_35_code,
  prog_1_method_27_code,
  prog_1_method_32_code,
  prog_1_method_28_code,
  prog_2_method_4_code,
  prog_2_method_5_code,
  prog_2_method_2_code,
  prog_2_method_3_code,
  prog_2_method_6_code,
  prog_2_method_7_code,
  prog_3_method_11_code,
  prog_3_method_2_code,
  prog_3_method_3_code,
  prog_3_method_4_code,
  prog_3_method_8_code,
  prog_3_method_9_code,
  prog_3_method_5_code,
  prog_3_method_10_code,
  prog_3_method_12_code,
  prog_3_method_6_code,
  prog_3_method_7_code,
  prog_4_method_2_code,
  prog_4_method_3_code,
  prog_4_method_4_code,
  prog_6_method_2_code,
  prog_6_method_4_code,
  prog_6_method_3_code,
  prog_8_method_2_code,
  prog_8_method_3_code,
  prog_8_method_4_code,
  prog_8_method_5_code,
  prog_8_method_6_code,
  prog_11_method_1_code,
  prog_11_method_2_code,
  prog_11_method_32_code,
  prog_11_method_4_code,
  prog_11_method_3_code,
  prog_11_method_33_code,
  prog_11_method_35_code,
  prog_11_method_34_code,
  prog_11_method_11_code,
  prog_11_method_38_code,
  prog_11_method_6_code,
  prog_11_method_29_code,
  prog_11_method_27_code,
  prog_11_method_7_code,
  prog_11_method_8_code,
  prog_11_method_25_code,
  prog_11_method_15_code,
  prog_11_method_12_code,
  prog_11_method_14_code,
  prog_11_method_26_code,
  prog_11_method_13_code,
  prog_11_method_30_code,
  prog_11_method_28_code,
  prog_11_method_17_code,
  prog_11_method_37_code,
  prog_11_method_36_code,
  prog_11_method_31_code,
  prog_11_method_39_code,
  prog_11_method_9_code,
  prog_11_method_18_code,
  prog_11_method_40_code,
  prog_11_method_41_code,
  prog_11_method_42_code,
  prog_11_method_10_code,
  prog_11_method_45_code,
  prog_11_method_43_code,
  prog_11_method_44_code,
  prog_11_method_46_code,
  prog_11_method_16_code,
  prog_11_method_48_code,
  prog_11_method_23_code,
  prog_11_method_24_code,
  prog_11_method_20_code,
  prog_11_method_19_code,
  prog_11_method_47_code,
  prog_11_method_5_code,
  prog_11_method_22_code,
  prog_11_method_21_code,
  prog_11_method_51_code,
  prog_11_method_50_code,
  prog_11_method_49_code,
  prog_11_method_54_code,
  prog_11_method_53_code,
  prog_11_method_52_code,
  prog_11_method_58_code,
  prog_11_method_56_code,
  prog_11_method_55_code,
  prog_11_method_59_code,
  prog_11_method_57_code,
  prog_11_method_60_code,
  prog_11_method_62_code,
  prog_11_method_61_code,
  prog_11_method_63_code,
  prog_11_method_64_code,
  prog_11_method_65_code,
  prog_11_method_66_code,
  prog_11_method_70_code,
  prog_11_method_69_code,
  prog_11_method_68_code,
  prog_11_method_67_code,
  prog_11_method_71_code,
  prog_11_method_73_code,
  prog_11_method_72_code,
  prog_11_method_77_code,
  prog_11_method_76_code,
  prog_11_method_75_code,
  prog_11_method_74_code,
  prog_11_method_78_code,
  prog_11_method_79_code,
  method_3_code,
  method_4_code,
  method_5_code,
  method_6_code,
  method_7_code,
  method_8_code,
  method_9_code,
  method_10_code,
  method_11_code,
  method_12_code,
  method_13_code,
  method_14_code,
  method_15_code,
  method_16_code,
  method_17_code,
  method_18_code,
  method_19_code,
  method_20_code,
  method_21_code,
  method_22_code,
  code]
def mv_rs0 : List (Option FieldType) := [(some .int),
  (some .int),
  (some .int),
  none,
  none,
  none,
  (some .boolean),
  (some .boolean),
  (some .int),
  (some .boolean),
  (some .int),
  (some .int),
  (some .int),
  (some .int),
  none,
  none,
  none,
  (some (.object "LineTemplates$Line")),
  (some .int),
  (some .boolean),
  none,
  none,
  none,
  (some .int),
  (some .boolean),
  (some .int),
  (some (.object "LineTemplates$Line")),
  (some .int),
  (some .int),
  (some .int),
  none,
  none,
  (some .boolean),
  (some .boolean),
  none,
  none,
  (some .int),
  none,
  none,
  none,
  (some .int),
  (some .int),
  (some .int),
  (some .int),
  (some .int),
  (some .boolean),
  (some .int),
  (some .int),
  (some .int),
  (some .int),
  (some .int),
  (some .int),
  (some .int),
  none,
  (some .int),
  (some .int),
  none,
  (some .int),
  none,
  (some .int),
  (some .int),
  (some .int),
  (some .int),
  (some .int),
  (some .int),
  (some .int),
  (some .int),
  (some .int),
  (some .int),
  (some .int),
  (some .int),
  (some .int),
  (some .int),
  none,
  none,
  (some .int),
  none,
  (some .int),
  (some .int),
  (some .int),
  (some .int),
  (some .int),
  (some .int),
  (some .int),
  (some .boolean),
  (some .int),
  (some .int),
  (some .int),
  (some .int),
  (some .boolean),
  (some .int),
  (some .int),
  (some .int),
  (some .int),
  (some .boolean),
  (some .int),
  (some .int),
  (some .int),
  (some .int),
  (some .int),
  none,
  (some .long),
  (some .boolean),
  (some .boolean),
  (some .boolean),
  (some .boolean),
  none,
  (some .int),
  (some .int),
  (some .boolean),
  (some .boolean),
  (some .int),
  (some .int),
  (some .int),
  (some .int),
  (some .int),
  (some .int),
  (some .int),
  (some .int),
  (some .int),
  (some .int),
  (some .int),
  (some .int),
  (some .int),
  (some .int),
  (some .int),
  (some .boolean),
  (some .int),
  (some .int),
  (some .int),
  (some .int),
  (some .boolean),
  (some .int),
  (some .int),
  (some .boolean),
  (some .int),
  (some .int),
  (some .int),
  (some .int),
  (some .boolean),
  (some .int),
  (some .boolean),
  (some .boolean),
  (some .int),
  (some .int),
  (some .int),
  none,
  (some .boolean),
  (some .int),
  (some .boolean),
  none,
  none,
  (some .int),
  none,
  (some .int),
  (some .int),
  none,
  (some .int),
  (some .int),
  none,
  (some .int),
  (some .int),
  (some .int),
  (some .int),
  (some .int),
  (some .int),
  (some .int),
  (some .boolean),
  (some .int),
  (some .int),
  (some .int),
  (some .int),
  (some .int),
  none,
  (some .int),
  none,
  (some .int),
  (some .int),
  (some .boolean),
  (some .int),
  none,
  none,
  none,
  (some .int),
  (some .int),
  (some .int),
  (some .int),
  (some .int),
  (some .int),
  (some .int),
  (some .int),
  (some .int),
  (some .int),
  (some .int),
  (some .int),
  (some .int),
  (some .int),
  (some .int),
  (some .int),
  (some .int),
  (some .int),
  (some .int),
  (some .int),
  (some .int),
  (some .int),
  (some .boolean)]
def mv_hs : List (List (Nat × Nat × Nat × Nat)) := [[],
  [],
  [],
  [],
  [],
  [],
  [],
  [],
  [],
  [],
  [],
  [],
  [],
  [],
  [],
  [],
  [],
  [],
  [],
  [],
  [],
  [],
  [],
  [],
  [],
  [],
  [],
  [],
  [],
  [],
  [],
  [],
  [],
  [],
  [],
  [],
  [],
  [],
  [],
  [],
  [],
  [],
  [],
  [],
  [],
  [],
  [],
  [],
  [],
  [],
  [],
  [],
  [],
  [],
  [],
  [],
  [],
  [],
  [],
  [],
  [],
  [],
  [],
  [],
  [],
  [],
  [],
  [],
  [],
  [],
  [],
  [],
  [],
  [],
  [],
  [],
  [],
  [],
  [],
  [],
  [],
  [],
  [],
  [],
  [],
  [],
  [],
  [],
  [],
  [],
  [],
  [],
  [],
  [],
  [],
  [],
  [],
  [],
  [],
  [],
  [],
  [],
  [],
  [],
  [],
  [],
  [],
  [],
  [],
  [],
  [],
  [],
  [],
  [],
  [],
  [],
  [],
  [],
  [],
  [],
  [],
  [],
  [],
  [],
  [],
  [],
  [],
  [],
  [],
  [],
  [],
  [],
  [],
  [],
  [],
  [],
  [],
  [],
  [],
  [],
  [],
  [],
  [],
  [],
  [],
  [],
  [],
  [],
  [],
  [],
  [],
  [],
  [],
  [],
  [],
  [],
  [],
  [],
  [],
  [],
  [],
  [],
  [],
  [],
  [],
  [],
  [],
  [],
  [],
  [],
  [],
  [],
  [],
  [],
  [],
  [],
  [],
  [],
  [],
  [],
  [],
  [],
  [],
  [],
  [],
  [(0, 9, 12, 13), (0, 9, 15, 15)],
  [(0, 9, 12, 13)],
  [(0, 10, 13, 24), (0, 10, 17, 13)],
  [(0, 10, 13, 24), (0, 10, 17, 13)],
  [(0, 10, 13, 24)],
  [(0, 10, 13, 24), (0, 10, 17, 13)],
  [(0, 12, 15, 24), (0, 12, 19, 13)],
  [(0, 10, 13, 24)],
  [(0, 8, 11, 15)],
  [(0, 9, 12, 24), (0, 9, 15, 15)],
  [(0, 9, 12, 24)],
  [(0, 10, 13, 24), (0, 10, 17, 15)],
  [(0, 8, 11, 15)],
  [(0, 8, 11, 15)],
  [(0, 10, 13, 24), (0, 10, 17, 13)],
  [(0, 9, 12, 13)],
  [(0, 11, 14, 13)],
  [(0, 11, 14, 13)],
  [(0, 9, 12, 24)],
  [(0, 9, 12, 24), (0, 9, 15, 15)],
  []]
def mv_sts : List (Bool) := [true,
  true,
  true,
  false,
  false,
  false,
  false,
  false,
  false,
  false,
  false,
  false,
  false,
  false,
  false,
  false,
  false,
  false,
  false,
  false,
  false,
  false,
  false,
  false,
  false,
  false,
  false,
  false,
  false,
  false,
  false,
  false,
  false,
  false,
  false,
  false,
  false,
  false,
  false,
  false,
  false,
  false,
  false,
  true,
  false,
  true,
  false,
  false,
  false,
  false,
  false,
  false,
  false,
  false,
  false,
  false,
  true,
  false,
  false,
  false,
  false,
  false,
  false,
  false,
  false,
  false,
  false,
  false,
  true,
  true,
  false,
  false,
  false,
  false,
  true,
  false,
  true,
  false,
  true,
  true,
  true,
  true,
  true,
  true,
  true,
  true,
  true,
  true,
  true,
  true,
  true,
  true,
  true,
  true,
  true,
  true,
  true,
  true,
  true,
  true,
  true,
  true,
  true,
  true,
  true,
  true,
  false,
  false,
  false,
  true,
  false,
  false,
  false,
  false,
  true,
  false,
  true,
  false,
  false,
  true,
  true,
  false,
  true,
  false,
  false,
  false,
  false,
  false,
  false,
  true,
  false,
  false,
  true,
  false,
  true,
  true,
  false,
  false,
  false,
  true,
  false,
  true,
  false,
  false,
  true,
  false,
  false,
  false,
  false,
  false,
  false,
  true,
  false,
  false,
  false,
  false,
  true,
  false,
  true,
  true,
  false,
  false,
  false,
  false,
  false,
  false,
  false,
  false,
  false,
  false,
  false,
  false,
  false,
  false,
  true,
  false,
  false,
  false,
  false,
  false,
  false,
  false,
  false,
  false,
  false,
  true,
  true,
  true,
  true,
  true,
  true,
  true,
  true,
  true,
  true,
  true,
  true,
  true,
  true,
  true,
  true,
  true,
  true,
  true,
  true,
  true]
def mv_frs : List (Nat) := [0,
  0,
  0,
  0,
  1,
  0,
  2,
  1,
  0,
  0,
  0,
  0,
  0,
  0,
  3,
  1,
  0,
  0,
  1,
  0,
  0,
  1,
  0,
  2,
  1,
  0,
  0,
  0,
  0,
  3,
  0,
  1,
  0,
  4,
  2,
  2,
  1,
  2,
  0,
  3,
  0,
  4,
  3,
  0,
  4,
  0,
  5,
  4,
  4,
  6,
  6,
  6,
  7,
  6,
  7,
  7,
  6,
  7,
  6,
  7,
  7,
  6,
  7,
  7,
  7,
  6,
  6,
  7,
  0,
  0,
  6,
  7,
  6,
  5,
  4,
  7,
  6,
  7,
  3,
  2,
  5,
  4,
  3,
  2,
  1,
  1,
  3,
  2,
  2,
  1,
  1,
  2,
  1,
  2,
  1,
  1,
  2,
  1,
  3,
  2,
  4,
  0,
  6,
  4,
  2,
  2,
  1,
  0,
  1,
  0,
  0,
  0,
  3,
  2,
  1,
  6,
  0,
  5,
  4,
  0,
  1,
  3,
  1,
  2,
  0,
  3,
  0,
  4,
  3,
  1,
  4,
  3,
  2,
  5,
  1,
  1,
  2,
  3,
  4,
  1,
  4,
  2,
  3,
  3,
  2,
  6,
  1,
  5,
  4,
  3,
  1,
  0,
  5,
  3,
  7,
  6,
  1,
  3,
  2,
  1,
  5,
  4,
  3,
  6,
  5,
  4,
  7,
  6,
  1,
  5,
  6,
  6,
  4,
  3,
  0,
  0,
  3,
  8,
  7,
  6,
  2,
  0,
  1,
  1,
  1,
  7,
  7,
  8,
  8,
  8,
  8,
  8,
  8,
  7,
  8,
  8,
  8,
  7,
  7,
  8,
  7,
  8,
  7,
  8,
  8,
  9]
def mv_los : List (Nat) := [0,
  0,
  0,
  0,
  20,
  0,
  42,
  21,
  0,
  0,
  0,
  0,
  0,
  0,
  65,
  20,
  0,
  0,
  22,
  0,
  0,
  22,
  0,
  50,
  26,
  0,
  0,
  0,
  0,
  72,
  0,
  22,
  0,
  94,
  42,
  43,
  22,
  43,
  0,
  64,
  0,
  87,
  65,
  0,
  94,
  0,
  115,
  87,
  97,
  139,
  90,
  119,
  111,
  90,
  111,
  111,
  90,
  111,
  90,
  111,
  111,
  94,
  111,
  111,
  111,
  118,
  90,
  111,
  0,
  0,
  90,
  164,
  146,
  115,
  87,
  110,
  90,
  110,
  71,
  47,
  119,
  97,
  68,
  44,
  26,
  21,
  68,
  44,
  53,
  26,
  21,
  53,
  21,
  43,
  21,
  23,
  47,
  22,
  71,
  44,
  94,
  0,
  139,
  94,
  45,
  44,
  20,
  0,
  25,
  0,
  0,
  0,
  71,
  45,
  25,
  152,
  0,
  129,
  103,
  0,
  20,
  72,
  20,
  45,
  0,
  72,
  0,
  96,
  72,
  20,
  98,
  72,
  42,
  129,
  25,
  20,
  46,
  72,
  96,
  25,
  98,
  46,
  72,
  72,
  43,
  145,
  20,
  122,
  99,
  72,
  24,
  0,
  122,
  72,
  167,
  145,
  20,
  67,
  44,
  20,
  127,
  102,
  72,
  149,
  127,
  96,
  168,
  145,
  24,
  122,
  145,
  152,
  99,
  72,
  0,
  0,
  72,
  193,
  168,
  152,
  45,
  0,
  24,
  25,
  25,
  111,
  140,
  133,
  133,
  133,
  133,
  135,
  133,
  116,
  134,
  132,
  133,
  138,
  110,
  133,
  111,
  189,
  169,
  131,
  131,
  220]
def mv_y (y : Nat) : MethodName := mv_ys.getD y objectInit
def mv_by (y : Nat) : ByteArray := mv_bs.getD y ⟨#[]⟩
def mv_rt (y : Nat) : Option FieldType := mv_rs0.getD y none
def mv_hh (y : Nat) : List (Nat × Nat × Nat × Nat) := mv_hs.getD y []
def mv_sb (y : Nat) : Bool := mv_sts.getD y false
def mv_fr (y : Nat) : Nat := mv_frs.getD y 0
def mv_lo (y : Nat) : Nat := mv_los.getD y 0
def mv_ow (y : Nat) : String := (mv_y y).cls
def mv_T0 : u_T := fun k => match k with
  | 0 => ("LineTemplates", "text", "[C", true)
  | 1 => ("LineTemplates", "textLength", "I", false)
  | 2 => ("LineTemplates", "reading", "LLineTemplates$Line;", true)
  | 3 => ("LineTemplates", "simulated", "[LLineTemplates$Line;", true)
  | 4 => ("LineTemplates", "present", "LLineTemplates$State;", true)
  | 5 => ("LineTemplates", "trial", "LLineTemplates$State;", true)
  | 6 => ("LineTemplates", "spare", "LLineTemplates$State;", true)
  | 7 => ("LineTemplates", "history", "LLineTemplates$History;", true)
  | 8 => ("LineTemplates", "saved", "[LLineTemplates$State;", true)
  | _ => ("LineTemplates", "filled", "[Z", true)
def mv_T1 : u_T := fun k => match k with
  | 0 => ("LineTemplates$Line", "text", "[C", true)
  | 1 => ("LineTemplates$Line", "kinds", "[I", true)
  | 2 => ("LineTemplates$Line", "starts", "[I", true)
  | 3 => ("LineTemplates$Line", "sizes", "[I", true)
  | 4 => ("LineTemplates$Line", "values", "[I", true)
  | 5 => ("LineTemplates$Line", "length", "I", false)
  | _ => ("LineTemplates$Line", "pieces", "I", false)
def mv_T2 : u_T := fun k => match k with
  | 0 => ("LineTemplates$State", "empty", "LLineTemplates$Line;", true)
  | 1 => ("LineTemplates$State", "lines", "[LLineTemplates$Line;", true)
  | 2 => ("LineTemplates$State", "templateOf", "[I", true)
  | 3 => ("LineTemplates$State", "samples", "[LLineTemplates$Line;", true)
  | 4 => ("LineTemplates$State", "openWords", "[I", true)
  | 5 => ("LineTemplates$State", "lineCount", "I", false)
  | _ => ("LineTemplates$State", "templateCount", "I", false)
def mv_T3 : u_T := fun k => match k with
  | 0 => ("LineTemplates$History", "states", "[LLineTemplates$State;", true)
  | 1 => ("LineTemplates$History", "oldest", "I", false)
  | _ => ("LineTemplates$History", "count", "I", false)
def mv_T4 : u_T := fun k => match k with
  | 0 => ("LineTemplatesModel", "refusal", "I", false)
  | 1 => ("LineTemplatesModel", "text", "[I", true)
  | 2 => ("LineTemplatesModel", "size", "I", false)
  | 3 => ("LineTemplatesModel", "now", "[I", true)
  | 4 => ("LineTemplatesModel", "trial", "[I", true)
  | 5 => ("LineTemplatesModel", "other", "[I", true)
  | 6 => ("LineTemplatesModel", "diary", "[I", true)
  | 7 => ("LineTemplatesModel", "acts", "I", false)
  | 8 => ("LineTemplatesModel", "kept", "[I", true)
  | 9 => ("LineTemplatesModel", "isKept", "[Z", true)
  | 10 => ("LineTemplatesModel", "begins", "[I", true)
  | 11 => ("LineTemplatesModel", "lengths", "[I", true)
  | 12 => ("LineTemplatesModel", "kinds", "[I", true)
  | 13 => ("LineTemplatesModel", "pieces", "I", false)
  | 14 => ("LineTemplatesModel", "ahead", "[I", true)
  | _ => ("LineTemplatesModel", "aheadSize", "I", false)
def mv_cl : List vw_C := [("LineTemplates", mv_T0, 10), ("LineTemplates$Line", mv_T1, 7), ("LineTemplates$State", mv_T2, 7), ("LineTemplates$History", mv_T3, 3), ("LineTemplatesModel", mv_T4, 16)]
def mv_cT (ci : Nat) : u_T := (mv_cl.getD ci ("", mv_T0, 0)).2.1
def mv_cn (ci : Nat) : String := (mv_cl.getD ci ("", mv_T0, 0)).1
def mv_xn (E : Nat) : String := match E with | 0 => "java/lang/IllegalArgumentException" | 1 => "java/lang/IllegalStateException" | _ => "java/lang/IndexOutOfBoundsException"
def mv_xi (E : Nat) : Nat := match E with | 0 => 62 | 1 => 69 | _ => 282
def mv_len (i : Instr) (a : Int) : Nat := match i with
  | .bipush _ => 2 | .ldc _ => 2 | .iload _ => 2 | .lload _ => 2 | .aload _ => 2 | .istore _ => 2 | .lstore _ => 2 | .astore _ => 2 | .newarray _ => 2
  | .sipush _ => 3 | .ldc_w _ => 3 | .ldc2_w _ => 3 | .iinc _ _ => 3 | .ifCond _ _ => 3 | .if_icmp _ _ => 3 | .goto _ => 3
  | .getfield _ => 3 | .putfield _ => 3 | .invokevirtual _ => 3 | .invokespecial _ => 3 | .invokestatic _ => 3 | .new _ => 3 | .anewarray _ => 3
  | .tableswitch _ _ _ _ => a.toNat
  | _ => 1
def mv_dk (cc : ByteArray) (k : mv_K) : Bool := k.all fun q => decide (decode cc q.1 = .ok (q.2.1, mv_len q.2.1 q.2.2))
def mv_at (w : Cond) (p : Nat) : Bool := decide (lw_tbl[p]? = some w)
/-- a throw: its text by an index (wide or not), the constructor's index -/
def mv_mp : List (List Nat) := [[269, 84, 268],
  [718, 84, 717],
  [728, 84, 727],
  [],
  [99, 71, 98],
  [239, 71, 238, 1],
  [243, 71, 242, 2],
  [250, 71, 249, 3],
  [254, 71, 253, 4],
  [300, 71, 299, 11],
  [353, 71, 352, 18],
  [361, 71, 360, 20],
  [568, 71, 567, 24],
  [735, 71, 734, 33],
  [811, 71, 810, 35],
  [138, 72, 137],
  [273, 72, 272, 7],
  [283, 72, 282, 8],
  [287, 72, 286, 9],
  [291, 72, 290, 10],
  [305, 72, 304, 12],
  [309, 72, 308, 13],
  [313, 72, 312, 14],
  [329, 72, 328, 15],
  [333, 72, 332, 16],
  [345, 72, 344, 17],
  [357, 72, 356, 19],
  [370, 72, 369, 21],
  [599, 72, 598, 26],
  [638, 72, 637, 27],
  [644, 72, 643, 28],
  [662, 72, 661, 29],
  [666, 72, 665, 30],
  [687, 72, 686, 31],
  [176, 73, 175],
  [262, 73, 261, 5],
  [266, 73, 265, 6],
  [703, 73, 702, 32],
  [839, 73, 838, 36],
  [91, 70, 90],
  [227, 70, 225, 226],
  [231, 70, 229, 230],
  [235, 70, 234, 0],
  [246, 70, 245],
  [258, 70, 256, 257],
  [296, 70, 295],
  [317, 70, 315, 316],
  [325, 70, 323, 324],
  [338, 70, 336, 337],
  [384, 70, 382, 383],
  [411, 70, 409, 410],
  [502, 70, 500, 501],
  [530, 70, 528, 529],
  [534, 70, 533, 23],
  [563, 70, 561, 562],
  [575, 70, 573, 574],
  [578, 70, 577],
  [587, 70, 585, 586],
  [591, 70, 590, 25],
  [607, 70, 605, 606],
  [623, 70, 621, 622],
  [633, 70, 631, 632],
  [651, 70, 649, 650],
  [658, 70, 656, 657],
  [674, 70, 672, 673],
  [683, 70, 681, 682],
  [698, 70, 696, 697],
  [710, 70, 708, 709],
  [725, 70, 724],
  [731, 70, 730],
  [743, 70, 741, 742],
  [758, 70, 756, 757],
  [797, 70, 795, 796],
  [802, 70, 801, 34],
  [807, 70, 806],
  [823, 70, 821, 822],
  [826, 70, 825],
  [834, 70, 832, 833],
  [341, 81, 340],
  [349, 81, 348],
  [388, 81, 387],
  [391, 81, 390],
  [396, 81, 395],
  [399, 81, 398],
  [375, 80, 374],
  [505, 80, 504],
  [510, 80, 509],
  [513, 80, 512],
  [518, 80, 517],
  [521, 80, 520],
  [555, 80, 554],
  [613, 80, 612],
  [626, 80, 625],
  [748, 80, 747],
  [751, 80, 750],
  [364, 82, 363],
  [713, 82, 712],
  [722, 82, 721],
  [276, 85, 275],
  [279, 85, 278],
  [320, 85, 319],
  [762, 86, 761],
  [768, 86, 767],
  [771, 86, 770],
  [778, 86, 777],
  [784, 86, 783],
  [844, 74, 843],
  [898, 74, 896, 897],
  [902, 74, 900, 901],
  [906, 74, 905],
  [910, 74, 909, 37],
  [914, 74, 912, 913],
  [918, 74, 916, 917],
  [922, 74, 921, 38],
  [925, 74, 924],
  [933, 74, 931, 932],
  [937, 74, 936],
  [941, 74, 940, 39],
  [945, 74, 944, 40],
  [948, 74, 947],
  [951, 74, 950],
  [955, 74, 954, 41],
  [958, 74, 957],
  [962, 74, 961, 42],
  [966, 74, 965, 43],
  [970, 74, 969, 44],
  [974, 74, 973, 45],
  [978, 74, 977, 46],
  [982, 74, 981, 47],
  [985, 74, 984],
  [989, 74, 988, 48],
  [993, 74, 992, 49],
  [996, 74, 995],
  [1000, 74, 998, 999],
  [1003, 74, 1002],
  [1007, 74, 1006],
  [1011, 74, 1009, 1010],
  [1015, 74, 1013, 1014],
  [1019, 74, 1017, 1018],
  [1022, 74, 1021],
  [1027, 74, 1025, 1026],
  [1030, 74, 1029],
  [1035, 74, 1034, 50],
  [1039, 74, 1037, 1038],
  [1042, 74, 1041],
  [1046, 74, 1044, 1045],
  [1050, 74, 1049, 51],
  [1054, 74, 1053, 52],
  [1058, 74, 1057, 53],
  [1062, 74, 1061, 54],
  [1066, 74, 1065, 55],
  [1069, 74, 1068],
  [1073, 74, 1072, 56],
  [1077, 74, 1076, 57],
  [1081, 74, 1079, 1080],
  [1085, 74, 1084, 58],
  [1088, 74, 1087],
  [1092, 74, 1090, 1091],
  [1095, 74, 1094],
  [1098, 74, 1097],
  [1102, 74, 1100, 1101],
  [1106, 74, 1105, 59],
  [1110, 74, 1109, 60],
  [1114, 74, 1112, 1113],
  [1118, 74, 1117, 61],
  [1122, 74, 1120, 1121],
  [1126, 74, 1124, 1125],
  [1130, 74, 1129, 62],
  [1134, 74, 1132, 1133],
  [1138, 74, 1136, 1137],
  [1142, 74, 1140, 1141],
  [1146, 74, 1144, 1145],
  [1150, 74, 1148, 1149],
  [1154, 74, 1153, 63],
  [1158, 74, 1157],
  [1162, 74, 1161, 64],
  [1166, 74, 1164, 1165],
  [1171, 74, 1169, 1170],
  [1177, 74, 1176, 65],
  [1181, 74, 1179, 1180],
  [1188, 74, 1187, 66],
  [1192, 74, 1191, 67],
  [1196, 74, 1195, 68],
  [1201, 74, 1199, 1200],
  [1205, 74, 1203, 1204],
  [405, 69, 404],
  [498, 69, 497],
  [525, 69, 524],
  [559, 69, 558],
  [571, 69, 570],
  [583, 69, 582],
  [603, 69, 602],
  [619, 69, 618],
  [629, 69, 628],
  [647, 69, 646],
  [654, 69, 653],
  [670, 69, 669],
  [679, 69, 678],
  [694, 69, 693],
  [706, 69, 705],
  [739, 69, 738],
  [754, 69, 753],
  [793, 69, 792],
  [819, 69, 818],
  [830, 69, 829],
  []]
def kp_Math_floorMod : List (List Nat) := [[], [], [], [], [], [], [], [], [], [], [], [], [], [], [], []]
def kp_Math_max : List (List Nat) := [[], [], [], [], [], [], []]
def kp_Math_min : List (List Nat) := [[], [], [], [], [], [], []]
def kp_Obj_init : List (List Nat) := [[]]
def kp_Line_init : List (List Nat) := [[], [100], [], [], [], [101], [], [], [], [102], [], [], [], [103], [], [], [], [104], [], [], [], [105], []]
def kp_Line_clear : List (List Nat) := [[], [], [106], [], [], [109], []]
def kp_Line_addCharacter : List (List Nat) := [[], [244], [], [], [], [247], [], [], [109], [], [], [], [], [109], [], [], [], [], [], [106], [], [], [], [], [], [], [], [], [], [], [], [109], [], [], [102], [], [], [], [], [103], [], [], [106], [], [], [104], [], [], [], [], [105], [], [], [], [], [], [109], [], [], [109]] ++ ([[], [], [], [], [104], [], [], [], [], [], [], [], [105], [], [], [105], [], [], [], [], [], [], [], [], [], [], [101], [], [106], [], [], [], [], [], [106], [], [], [106], [], [104], [], [], [], [], [], [], [], []])
def kp_Line_growsLastPiece : List (List Nat) := [[], [], [], [], [109], [], [], [], [109], [], [], [251], [], [], [], [], [], []]
def kp_Line_kindAt : List (List Nat) := [[], [], [], [], [109], [], [], [102], [], [], [], [], []]
def kp_Line_isWrittenLike : List (List Nat) := [[], [], [], [], [109], [], [], [], [], [], [109], [], [], [104], [], [], [], [104], [], [], [], [], [], [], [103], [], [], [], [], [103], [], [], [], [], [], [], [], [], [104], [], [], [], [], [], [], [106], [], [], [], [106], [], [], [101], [], [], [], [101], [], [], []] ++ ([[], [], [], [], [], [], []])
def kp_Line_sizeAt : List (List Nat) := [[], [], [], [], [109], [], [], [104], [], [], [], [], []]
def kp_Line_valueAt : List (List Nat) := [[], [], [], [], [109], [], [], [102], [], [], [], [], [], [105], [], [], [], [], []]
def kp_Line_characterAt : List (List Nat) := [[], [], [], [], [106], [], [], [], [], [101], [], [], []]
def kp_Line_startAt : List (List Nat) := [[], [], [], [], [109], [], [], [103], [], [], [], [], [106], []]
def kp_Line_addNumber : List (List Nat) := [[], [812], [], [], [], [], [], [], [], [], [813], [814], [], [], [], []]
def kp_State_init : List (List Nat) := [[], [139], [], [], [140], [142], [], [], [], [143], [], [], [140], [144], [], [], [], [145], [], [], [141], [], [], [], [], [], [], [142], [], [], [], [], [], [], [], [], [], [], [], [144], [], [], [], [], [], []]
def kp_State_copyFrom : List (List Nat) := [[], [], [146], [146], [], [], [152], [152], [], [], [], [], [146], [], [], [142], [], [], [142], [], [], [], [], [143], [], [], [143], [], [], [], [], [], [], [], [], [], [152], [], [], [144], [], [], [144], [], [], [], [], [145], [], [], [145], [], [], [], [], [], []]
def kp_State_sampleAt : List (List Nat) := [[], [], [], [], [152], [], [], [144], [], [], [], [], [141], []]
def kp_State_kindIn : List (List Nat) := [[], [], [], [288], [], [], [], [], [], [292], [], [293], []]
def kp_State_isOpen : List (List Nat) := [[], [], [], [], [152], [], [], [], [], [], [], [], [145], [], [], [], [], [], [], [], [], [], [], []]
def kp_State_openWord : List (List Nat) := [[], [], [], [], [152], [], [], [], [], [], [], [], [145], [], [], [], [], [], [], [], [], []]
def kp_State_moveLines : List (List Nat) := [[], [], [], [], [146], [], [], [143], [], [], [], [], [], [143], [], [], [], [], [], [], [], [310], []]
def kp_State_dropTemplate : List (List Nat) := [[], [], [], [], [152], [], [], [], [], [], [], [], [], [152], [], [], [144], [], [], [], [], [144], [], [], [], [], [145], [], [], [], [], [145], [], [], [], [], [], [], [], [152], [], [], [152], [], [], [], [], [146], [], [], [143], [], [], [], [], [], [143], [], [], []] ++ ([[], [], [], [], [], []])
def kp_State_firstFit : List (List Nat) := [[], [], [], [], [152], [], [], [], [], [330], [], [], [], [], [], [], []]
def kp_State_fits : List (List Nat) := [[], [], [292], [], [], [115], [], [115], [], [], [], [], [], [], [], [115], [], [], [], [293], [], [], [293], [], [], [], [], [], [293], [], [], [], [], [], [288], [], [], [], [], [], [334], [], [], [], [], [], [], []]
def kp_State_lastOf : List (List Nat) := [[], [146], [], [], [], [], [], [], [], [], [], [143], [], [], [], [], [], [], [], [], [], []]
def kp_State_lineAt : List (List Nat) := [[], [], [], [], [146], [], [], [142], [], [], [], [], [141], []]
def kp_State_templateAt : List (List Nat) := [[], [], [], [], [146], [], [], [143], [], [], [], [], []]
def kp_State_firstOf : List (List Nat) := [[], [], [], [], [146], [], [], [143], [], [], [], [], [], [], [], [], [], []]
def kp_State_templateFor : List (List Nat) := [[], [146], [], [], [], [], [], [], [639], [], [], [], [], [], [152], [], [], [], [152], [], [], []]
def kp_State_put : List (List Nat) := [[], [146], [], [], [], [], [], [], [152], [], [], [], [], [], [], [], [152], [], [], [144], [], [], [], [], [145], [], [], [], [], [], [152], [], [], [152], [], [142], [], [146], [], [], [], [143], [], [146], [], [], [], [], [146], [], [], [146], []]
def kp_State_dropLine : List (List Nat) := [[], [], [663], [], [], [], [143], [], [], [], [], [], [], [], [], [], [146], [], [], [142], [], [], [], [], [142], [], [], [], [], [143], [], [], [], [], [143], [], [], [], [], [], [], [], [146], [], [], [146], [], [], [667], [], [], [], [], [310], []]
def kp_State_hasLine : List (List Nat) := [[], [], [], [], [146], [], [], [], [], []]
def kp_State_takeLinesOf : List (List Nat) := [[], [], [146], [], [], [152], [], [], [], [], [146], [], [], [], [688], [], [], [], [689], [], [], [], [], [], [], [], [], [], [690], [], [], [], []]
def kp_Hist_init : List (List Nat) := [[], [177], [], [], [178], [181], [], [], [], [], [], [], [181], [], [178], [], [], [180], [], [], [], []]
def kp_Hist_remember : List (List Nat) := [[], [183], [], [], [], [], [], [263], [182], [], [], [183], [], [], [183], [], [181], [], [], [183], [263], [], [], [270], [], [], [183], [], [], [183], []]
def kp_Hist_placeBehindOldest : List (List Nat) := [[], [182], [], [], [], [267], []]
def kp_Hist_takeBack : List (List Nat) := [[], [183], [], [], [], [183], [], [], [183], [], [], [181], [], [], [183], [263], [], [270], []]
def kp_Hist_forgetAll : List (List Nat) := [[], [], [183], []]
def kp_LT_init : List (List Nat) := [[], [92], [], [], [], [192], [95], [], [97], [], [], [], [193], [], [95], [], [97], [194], [], [], [95], [195], [], [], [], [], [195], [], [], [], [195], [], [95], [], [97], [], [], [], [], [134], [], [], [136], [196], [], [134], [], [], [136], [197], [], [134], [], [], [136], [198], [], [172], [], []] ++ ([[174], [199], [], [], [134], [200], [], [], [], [], [200], [], [], [], [200], [], [134], [], [], [136], [], [], [], [], [], [], [201], []])
def kp_LT_clearText : List (List Nat) := [[], [193], [], [], [], [193], [], []]
def kp_LT_errorPosition : List (List Nat) := [[], [], [194], [232], []]
def kp_LT_readText : List (List Nat) := [[], [236], [], [], [], [], [193], [], [], [], [192], [], [], [], [], [192], [], [], [240], [], [], [], [], [], [], [193], [], [], [], [], []]
def kp_LT_kindOfCharacter : List (List Nat) := [[], [], [], [], [], [], [], [], [], [], [], [], [], [], [], [], [], [], [], [], [], [], [], [], [], [], [], [], [], [], []]
def kp_LT_learn : List (List Nat) := [[], [199], [], [196], [259], [], [196], [274], []]
def kp_LT_isSlot : List (List Nat) := [[], [], [], [], [], [], [], [], [], []]
def kp_LT_learnAll : List (List Nat) := [[], [199], [], [196], [259], [], [196], [318], [], [196], [155], []]
def kp_LT_which : List (List Nat) := [[], [], [194], [232], [], [], [], [196], [], [194], [326], [], [], []]
def kp_LT_wouldCost : List (List Nat) := [[], [], [194], [232], [], [], [], [], [], [196], [], [194], [], [196], [], [194], [326], [], [196], [150], [339], []]
def kp_LT_saves : List (List Nat) := [[], [197], [], [196], [385], [], [197], [274], [], [], [], [], [], [196], [386], [], [197], [386], [], []]
def kp_LT_append : List (List Nat) := [[], [], [], [], [], [412], [], [193], [], [192], [], [], [480], [], [192], [], [193], [], [], [], [], [], [193], [], [], [193], [], [193], []]
def kp_LT_about : List (List Nat) := [[], [], [], [196], [150], [], [], [196], [155], [], [], [196], [503], [], [], [196], [506], [], [], [196], [507], [], [], [196], [], [508], [], [], [196], [], [508], [], [], [196], [516], [], [412]]
def kp_LT_line : List (List Nat) := [[], [], [531], [], [], [], [196], [], [551], [], [], [196], [], [552], [108], [], [], [196], [], [196], [], [552], [], [196], [], [551], [], [339], [], [], [196], [], [196], [], [551], [], [553], [], [412]]
def kp_LT_checkLine : List (List Nat) := [[], [], [], [], [196], [150], [], [535], []]
def kp_LT_charAt : List (List Nat) := [[], [], [531], [], [], [412], [], [196], [], [552], [], [565], []]
def kp_LT_value : List (List Nat) := [[], [], [531], [], [196], [], [552], [], [576], [], [196], [], [552], [], [580], []]
def kp_LT_checkPiece : List (List Nat) := [[], [], [], [], [114], [], [535], []]
def kp_LT_template : List (List Nat) := [[], [], [588], [], [], [], [196], [], [593], [114], [], [], [196], [], [], [196], [150], [553], [], [], [196], [], [], [594], [], [], [196], [], [], [594], [], [], [196], [], [595], [], [], [196], [], [596], [], [412]]
def kp_LT_checkTemplate : List (List Nat) := [[], [], [], [], [196], [155], [], [535], []]
def kp_LT_piece : List (List Nat) := [[], [], [588], [], [196], [], [593], [], [576], [], [196], [], [], [608], [], [], [], [], [], [], [609], [], [], [], [], [196], [], [593], [], [610], [], [], [196], [], [], [611], [], [412]]
def kp_LT_rises : List (List Nat) := [[], [], [588], [], [196], [], [593], [], [576], [], [196], [], [], [608], [], [], [], [196], [], [], [624], [], [], []]
def kp_LT_take : List (List Nat) := [[], [], [194], [232], [], [], [480], [], [196], [], [194], [635], [], [], [], [], [480], [95], [], [97], [], [], [], [232], [], [], [199], [], [196], [259], [], [196], [], [], [641], [], []]
def kp_LT_again : List (List Nat) := [[], [], [531], [], [196], [], [552], [], [], [196], [], [635], [], [], [], [], [480], [], [199], [], [196], [259], [], [196], [], [], [641], [], [196], [150], [], [], []]
def kp_LT_remove : List (List Nat) := [[], [], [531], [], [199], [], [196], [259], [], [196], [], [659], [], [196], [155], []]
def kp_LT_open : List (List Nat) := [[], [], [588], [], [196], [], [593], [], [576], [], [196], [], [], [608], [], [480], [], [199], [], [196], [259], [], [196], [], [], [676], [], [196], [], [595], []]
def kp_LT_forget : List (List Nat) := [[], [197], [], [196], [684], [], [480], [], [199], [], [196], [259], [], [196], [], [197], [385], [], [196], [155], []]
def kp_LT_undo : List (List Nat) := [[], [199], [184], [], [480], [], [199], [], [196], [700], [], [199], [184], []]
def kp_LT_next : List (List Nat) := [[], [], [588], [], [], [412], [], [196], [], [], [711], []]
def kp_LT_countDigits : List (List Nat) := [[], [], [], [], [], [], [], [], [], [], [], [], [], [], [], [], [], [], []]
def kp_LT_digitCharacter : List (List Nat) := [[], [], [], [], [], [], [], [], [], [], [], [], [], [], [], [], [], [], [], [], []]
def kp_LT_withValue : List (List Nat) := [[], [], [], [744], [], [412], [], [196], [], [746], []]
def kp_LT_runScript : List (List Nat) := [[], [], [], [], [], [], [412], [], [], [], [], [], [], [760], [], [], [], [412], [], [197], [], [196], [385], [], [], [], [], [], [], [], [], [], [], [], [760], [765], [], [], [], [], [], [197], [], [198], [766], [], [], [], [], [], [], []]
def kp_LT_simulate : List (List Nat) := [[], [], [], [], [], [], [412], [], [197], [], [196], [385], [], [], [], [799], [], [], [197], [155], [], [], [197], [386], [], [816], [], []]
def kp_LT_simulateLines : List (List Nat) := [[], [], [], [], [], [], [], [], [], [], [], [], [], [195], [], [], [], [803], [], [804], [], [], [], [], [], [], [], [], [], [], [], [], [], [], [195], [], [], [], [], [], [], [805], [], [197], [], [635], [], [], [], [], [], [197], [318], [], [], [197], [], [], [641], []] ++ ([[], [], []])
def kp_LT_writeSimulated : List (List Nat) := [[], [236], [], [], [], [], [], [], [], [], [], [], [240], [], [], [], [240], [], [], [], [240], [], [], [], [808], [], [], [], [], [], [], [], [], [], [], [240], [], [], [], [], [], [], [], [], [], [240], [], [], [815], [], [], [], [], [], [], [240], [], [], [], []] ++ ([[], [], [], [808], []])
def kp_LT_save : List (List Nat) := [[], [824], [], [200], [], [], [], [196], [385], [], [201], [], [], [], [], [196], [150], []]
def kp_LT_checkSlot : List (List Nat) := [[], [], [], [], [], [535], []]
def kp_LT_restore : List (List Nat) := [[], [824], [], [201], [], [], [], [480], [], [196], [], [200], [], [], [385], [], [199], [836], [], [196], [150], []]
def kp_Costs_ofLineAt : List (List Nat) := [[], [], [], [342], [], [], [], [], [], [], [], [113], [], [], [], [346], [], [], [], [], [], [], [], [347], [], [], [], [], [], [], [372], [], [], [], [], [], [], [], [373], [], [], [], [], [], [350], [], [], [], [], [], []]
def kp_Costs_ofNumber : List (List Nat) := [[], [], [350], [], [], [], [], [], [], [], [354], [], [350], [], [], [], [], [], [358], [], [], [], [362], [], [], [], [], []]
def kp_Costs_ofAll : List (List Nat) := [[], [389], [], [394], [], []]
def kp_Costs_ofLines : List (List Nat) := [[], [], [], [], [], [], [149], [], [], [], [], [], [354], [], [], [392], [], [393], [], [], [], [], [], []]
def kp_Costs_ofTemplates : List (List Nat) := [[], [], [], [], [], [], [156], [], [], [], [], [397], [], [], [], [], [], []]
def kp_Costs_ofTemplate : List (List Nat) := [[], [], [400], [], [], [], [], [], [], [], [113], [], [], [], [], [], [401], [402], [], [], [], [], [], [350], [], [], [], [], [], []]
def kp_Counts_isSeenBefore : List (List Nat) := [[], [], [376], [], [], [], [], [], [], [], [], [], [], [], [], [], [147], [], [], [], [377], [], [], [], [378], [], [], [], [], [], [], [], [379], [], [], [379], [], [], [], [], [], [], [380], [], [], [], [], [], [], []]
def kp_Counts_charactersOfLines : List (List Nat) := [[], [], [], [], [], [], [147], [], [], [], [], [377], [107], [], [], [], [], [], []]
def kp_Counts_slotsOfTemplates : List (List Nat) := [[], [], [], [], [], [], [153], [], [], [], [], [], [511], [], [], [], [], [], []]
def kp_Counts_slotsOfTemplate : List (List Nat) := [[], [], [], [], [], [], [], [514], [111], [], [], [], [], [515], [], [], [], [], [], [], []]
def kp_Counts_differentWords : List (List Nat) := [[], [], [], [], [], [], [147], [], [], [], [377], [], [], [], [], [], [111], [], [], [], [376], [], [], [], [], [519], [], [], [], [], [], [], [], []]
def kp_Counts_isWordBefore : List (List Nat) := [[], [], [377], [], [], [], [], [], [], [], [], [377], [], [], [], [], [], [], [], [111], [], [], [], [], [], [], [], [], [], [], [380], [], [], [], [], [], [], [], [], []]
def kp_Counts_linesBefore : List (List Nat) := [[], [], [], [], [], [], [], [], [], [147], [], [], [], [378], [], [], [], [], [], [], []]
def kp_Counts_differentThings : List (List Nat) := [[], [], [], [515], [614], [], [], [], [], [], [], [], [], [], [147], [], [], [], [378], [], [], [], [], [], [377], [], [], [], [615], [], [], [], [], [], []]
def kp_Counts_risingLines : List (List Nat) := [[], [], [], [], [], [], [], [147], [], [], [], [], [], [], [], [378], [], [], [], [], [], [377], [], [379], [], [], [], [], [], [], [], [], [], [], [], [], [], [], [], [], [], [], [], [], [], [], [], [], []]
def kp_Counts_linesWithValue : List (List Nat) := [[], [], [], [], [], [], [147], [], [], [], [377], [], [749], [], [], [], [], [], []]
def kp_Counts_hasValue : List (List Nat) := [[], [], [], [], [111], [], [], [], [379], [], [], [], [], [], [], [], []]
def kp_Exp_valueBehind : List (List Nat) := [[], [], [365], [], [366], [], [], [], [], [367], [], [371], [], [], [], [], [], [], [], [], [], [], [365], [], [366], [], [], []]
def kp_Exp_characterAt : List (List Nat) := [[], [], [], [148], [371], [], [], [], [365], [], [], [], [], [], [], [], [110], [], [], [], [714], [], [], [], [], [], [], [], [], [], [], [], [], [715], [716], [], [], [], [], [], [], [], [], [719], [720], [], [], [], [719], [], [], [], [], [], [], [], [], [], [], []] ++ ([[], [729], [], [], [], [], [732], [], [], [736], [], [], [], [], [], [], [], [], []])
def kp_Exp_digitsFor : List (List Nat) := [[], [], [], [723], [716], [726], []]
def kp_Learn_learnFirstPair : List (List Nat) := [[], [], [], [], [151], [], [], [], [], [], [], [], [151], [], [], [], [], [277], [], [], [], [], [], [], [], [302], [], [], [], [306], [], [], [], [], [], [], [], [], [], [], [], []]
def kp_Learn_onlyDifference : List (List Nat) := [[], [], [280], [], [], [], [280], [], [], [112], [], [112], [], [], [], [], [], [], [], [], [], [112], [], [], [], [], [284], [], [], [], [], [], [284], [], [], [294], [], [], [], [], [], [297], [], [], [], [], [], [], [], [301], [], [], [], [301], [], [], [], [], [], []] ++ ([[], [], []])
def kp_Learn_learnAllPairs : List (List Nat) := [[], [], [], [], [], [], [321], [], [], [], [], []]
def kp_Scr_withoutLowestGroups : List (List Nat) := [[], [], [], [], [], [], [], [], [763], [], [], [], [], [], []]
def kp_Scr_succeeds : List (List Nat) := [[], [], [], [], [], [], [], [], [], [], [], [], [], [], [], [], [], [], [], [], [769], [], [], [], [], [], [], [], [], [], [776], [], [], [], [], [], [], [], [], [780], [], [], [], [], [], [], [], [], [], [781], [], [], [], [], [], [], [], [], [], []] ++ ([[], [], [], [], [], [782], [], [], [], [], [], [], [], [], [], [787], [], [], [], [], [], [788], [], [], [], [], [], [], [154], [], [], [], [], [], [], [], [789], [], [], [], [], [], [], [], [], [773], [], [], [], [790], [], [], [], [], [], [], [], []])
def kp_Scr_takesAgain : List (List Nat) := [[], [], [772], [], [], [], [773], [], [], [], [774], [], [], [], [], [], [], [], [], [], [], [], [775], [], []]
def kp_Scr_removes : List (List Nat) := [[], [], [773], [], [], [], [], [], [779], [], []]
def kp_Scr_opens : List (List Nat) := [[], [], [], [785], [], [], [], [], [], [], [786], [], []]
def kp_Mod_init : List (List Nat) := [[], [845], [], [], [], [847], [], [], [], [849], [], [], [], [850], [], [], [], [851], [], [], [], [852], [], [], [], [854], [], [], [], [855], [], [], [], [856], [], [], [], [857], [], [], [], [858], [], [], [], [860], [], [], [853], []]
def kp_Mod_thrown : List (List Nat) := [[], [846], []]
def kp_Mod_append : List (List Nat) := [[], [], [], [], [903], [904], [], [], [], [], [848], [], [], [], [], [], [907], [], [], [], [], [847], [], [848], [], [], [], [], [848], [], [], [848], [], [848], []]
def kp_Mod_in : List (List Nat) := [[], [], [], [], [], [], [], [], [], [], [], []]
def kp_Mod_refused : List (List Nat) := [[], [], [846], [], [], [], [], [], []]
def kp_Mod_clearText : List (List Nat) := [[], [848], [], [], [], [848], [], []]
def kp_Mod_errorPosition : List (List Nat) := [[], [919], []]
def kp_Mod_wrong : List (List Nat) := [[], [], [], [], [], [], [], [], [], [], [848], [], [], [847], [], [], [923], [], [], [], [], [], [], [], [], [], [], [], [], [], [], [], [], [], [], [], [], [], [], [], [], [], [], [], [], [], [], [], [], [], [], [], [], [], [], [], [], [], [], []] ++ ([[], [], [], [], [], [], [], [], [848], [], [], [], [], []])
def kp_Mod_signKind : List (List Nat) := [[], [], [926], [927], [904], [], [], [], [], [], [928], [929], [904], [], [], [], [], [], [], [], [], [], [], [], [], [], [], [], [], [], []]
def kp_Mod_about : List (List Nat) := [[], [], [], [], [934], [904], [], [], [], [], [907], [], [], [], [], [], [], [], [], [849], [], [], [], [], [849], [], [], [], [], [], [], [], [849], [], [], [], [], [], [849], [], [935], [], [], [], [], [], [], [], [], [], [849], [938], [], [], [], [849], [975], [], [], []] ++ ([[849], [986], [], [], [], [], [], [849], [], [], [], [], [], [849], [], [], [], [], [], [], [], [994], [], [], [], [], [], []])
def kp_Mod_lineAt : List (List Nat) := [[], [], [], [], [], []]
def kp_Mod_costOfLines : List (List Nat) := [[], [], [], [], [], [], [], [], [], [], [], [], [], [942], [], [], [], [], [], []]
def kp_Mod_costOfLine : List (List Nat) := [[], [], [935], [], [], [], [], [], [], [], [], [], [], [], [946], [], [], [], [], [], [949], [], [], [], [], [], [], [], [], [], [], [952], [], [], [], [], [], [], [], [], [], [967], [], [], [], [], [], [], [], []]
def kp_Mod_templateAt : List (List Nat) := [[], [], [], [], [], []]
def kp_Mod_kindOf : List (List Nat) := [[], [], [946], [], [], [], [], [], []]
def kp_Mod_numberCost : List (List Nat) := [[], [], [], [956], [], [], [], [], [], [959], [], [], [857], [], [], [], [], [], [], [963], [], [], [], [], [], [], [], [], [], [], [959], [], [], [], [], [963], [], [], [857], [], [], [], [], [], [], [], [], [], [], [], [956], [], [], [], [], [], [], [], [], []] ++ ([[], [959], [], [], [], [], [], [963], [], [], [], [], [], [], [], [], [], [], [], [], []])
def kp_Mod_lineBefore : List (List Nat) := [[], [], [], [], [], [], [], [], [935], [], [], [], [], [], [], [], [], [], [], [], [], []]
def kp_Mod_cut : List (List Nat) := [[], [935], [], [], [], [], [], [], [], [], [], [], [], [], [], [], [], [], [], [923], [], [], [], [], [], [], [], [], [858], [], [], [], [], [], [], [], [], [856], [], [], [], [], [], [], [], [], [], [], [857], [], [], [], [], [], [], [858], [], [], [], []] ++ ([[], [], [], [857], [], [], [], [], [], [], [], [], [], [], [], [], [], []])
def kp_Mod_valueAt : List (List Nat) := [[], [], [], [], [], [], [857], [], [], [], [], [], [], [], [], [856], [], [], [], [], [], [], [], [], [], [], [], [], []]
def kp_Mod_wordCost : List (List Nat) := [[], [], [], [], [959], [], [], [], [], [956], [], [], [], [], [], [], [], [], [959], [], [], [], [], [], [], [], [971], [], [], [], [], [], [], [956], [], [], [], [857], [], [], []]
def kp_Mod_areSame : List (List Nat) := [[], [857], [], [], [], [857], [], [], [], [], [], [], [], [], [], [], [], [857], [], [], [], [], [], [], [], [856], [], [], [], [], [], [], [], [856], [], [], [], [], [], [], [], [], [], [], [], [], [], []]
def kp_Mod_costOfTemplates : List (List Nat) := [[], [], [], [], [], [], [], [], [], [], [], [], [], [979], [], [], [], [], [], []]
def kp_Mod_costOfTemplate : List (List Nat) := [[], [], [], [], [983], [], [959], [], [], [], [], [], [], [], [], [946], [], [], [], [], [], [], [949], [], [], [], [857], [], [], [], [], [], [], [], [], [], []]
def kp_Mod_firstLine : List (List Nat) := [[], [], [], [], [935], [], [], [], [], [], [], [], [], []]
def kp_Mod_differentWords : List (List Nat) := [[], [], [], [], [], [], [], [], [], [], [], [], [], [959], [], [], [], [], [], [], [], [], [858], [], [], [], [], [], [], [], [990], [], [], [], [], [], [], [], [], [], [], [], []]
def kp_Mod_isNewWord : List (List Nat) := [[], [], [], [], [], [], [], [], [], [959], [], [], [], [], [], [], [], [], [], [], [], [], [], [858], [], [], [], [], [], [], [], [], [], [], [], [971], [], [], [], [], [], [], [], [], []]
def kp_Mod_slots : List (List Nat) := [[], [], [], [], [], [], [], [946], [], [], [], [], [], [], [949], [], [], [], [], [], [], [], [], [], [], []]
def kp_Mod_line : List (List Nat) := [[], [], [849], [], [1001], [], [], [], [], [], [], [1004], [904], [], [], [], [], [907], [], [], [], [], [849], [], [935], [], [], [], [], [], [], [], [], [], [], [], [], [849], [], [935], [], [], [], [], [], [], [], [849], [], [942], [], [], [849], [], [], [1005], []]
def kp_Mod_isLine : List (List Nat) := [[], [], [], [], [], [], [], [], [], [904], []]
def kp_Mod_linesOf : List (List Nat) := [[], [], [], [], [], [], [], [], [], [], [935], [], [], [], [], [], [], [], [], [], [], [], [], [], []]
def kp_Mod_charAt : List (List Nat) := [[], [], [849], [], [1001], [], [], [], [], [], [], [], [], [907], [], [], [], [], [], [849], [], [935], [], [], [], [849], [], [935], [], [], [], [], [], [], [], []]
def kp_Mod_value : List (List Nat) := [[], [], [849], [], [1001], [], [], [], [849], [], [], [959], [], [], [859], [], [], [], [], [], [859], [], [], [], [904], [], [], [], [], [907], [], [], [], [], [858], [], [], [], [], [], [], [849], [], [963], [], [], []]
def kp_Mod_template : List (List Nat) := [[], [], [849], [], [1020], [], [], [], [], [], [], [1023], [904], [], [], [], [], [907], [], [], [], [], [], [], [849], [], [946], [], [], [], [849], [], [], [849], [], [], [1005], [], [], [849], [], [], [994], [], [], [849], [], [], [994], [], [], [], [849], [], [979], [], [], [849], [], [983]] ++ ([[]])
def kp_Mod_isTemplate : List (List Nat) := [[], [], [], [], [], [], [], [], [], [904], []]
def kp_Mod_piece : List (List Nat) := [[], [], [849], [], [], [1028], [], [], [], [], [], [], [1031], [904], [], [], [], [], [907], [], [], [], [], [849], [], [], [949], [], [], [], [], [], [], [849], [], [849], [], [983], [], [959], [], [], [], [], [], [], [], [], [], [857], [], [], [], [], [], [], [], [], [], []] ++ ([[], [849], [], [], [], [], [], [849], [], [935], [], [], [], [], [], [], [], [849], [], [], [], [1032], [], [], [], [], [], [], [], [], [], []])
def kp_Mod_isPiece : List (List Nat) := [[], [], [1020], [], [], [], [], [], [], [946], [], [], [], [], [904], [], [], [], [], []]
def kp_Mod_isNewThing : List (List Nat) := [[], [], [], [], [959], [], [], [], [], [956], [], [], [], [], [], [], [], [], [959], [], [], [], [], [949], [], [], [], [], [], [963], [], [], [], [], [], [963], [], [], [], [], [], [], [], [], [], [], [], [971], [], [], [], [], [], [], [], [], [956], [], [], []] ++ ([[]])
def kp_Mod_rises : List (List Nat) := [[], [], [849], [], [], [1028], [], [], [], [], [907], [], [], [], [], [849], [], [], [949], [], [], [], [], [], [849], [], [1040], [], [], [], [849], [], [], [959], [], [], [], [849], [], [963], [], [], [], [], [], [], [], [], [], [], [849], [], [], [956], [], [], [], [], [], []] ++ ([[], [], [], [], [], [], [849], [], [], [959], [], [], [], [], [849], [], [963], [], [], [], [], [], [], [], [], [], [], [], [], [], [], [], [], [], [], [], [], [], [], [], [], [849], [], [963], [], [], [], []])
def kp_Mod_lastLine : List (List Nat) := [[], [], [], [], [], [956], []]
def kp_Mod_take : List (List Nat) := [[], [919], [], [], [], [], [849], [1047], [], [], [919], [], [], [], [], [849], [1051], [], [], [], [], [907], [], [], [], [], [1063], [], [], [849], [1070], []]
def kp_Mod_layText : List (List Nat) := [[], [], [], [935], [], [], [], [], [848], [], [], [], [], [], [], [], [], [], [], [], [848], [], [], [], [], [], [], [], [], [], [], [], [847], [], [], [], [], [], []]
def kp_Mod_canSettle : List (List Nat) := [[], [], [], [], [], [], [], [], [], [], [], [], [], [], [], [1055], [], [], [], [], [], []]
def kp_Mod_templateFor : List (List Nat) := [[], [], [], [], [], [], [], [], [], [], [], [1059], [], [], [], [], [], [], []]
def kp_Mod_fits : List (List Nat) := [[], [], [], [], [959], [], [], [], [], [946], [], [], [], [], [], [], [], [], [983], [], [959], [], [], [], [], [], [], [], [], [], [949], [], [], [], [], [], [858], [], [], [], [], [], [], [], [], [], [], [], [], [858], [], [], [], [], [], [], [], [], [858], []] ++ ([[], [], [], [], [], [], [], [], [], [971], [], [], [], [], [], [], [], [], [], [], [], [], []])
def kp_Mod_remember : List (List Nat) := [[], [853], [], [], [], [], [], [], [], [], [852], [], [], [852], [], [], [], [], [], [], [], [], [], [853], [], [], [853], [], [849], [], [], [852], [], [], [853], [], [1067], [], [], [853], [], [], [853], []]
def kp_Mod_copyLog : List (List Nat) := [[], [], [], [], [], [], [], [], [], [], [], [], [], [], [], [], [], []]
def kp_Mod_settle : List (List Nat) := [[], [], [], [], [], [], [], [1055], [], [], [], [], [], [], [], [], [], [], [], [1074], [], [], [935], [], [], [], [], [], [], [], [], [], [], [], [], []]
def kp_Mod_addTemplate : List (List Nat) := [[], [], [], [], [], [], [], [], [959], [], [], [], [946], [], [], [], [], [], [], [], [], [], [946], [], [], [], [], [], [858], [], [], [], [], [], [], [], [], [], [], [], [], []]
def kp_Mod_again : List (List Nat) := [[], [], [849], [], [1001], [], [], [], [], [849], [], [], [], [], [], [], [], [907], [], [], [], [], [1063], [], [], [849], [], [1082], []]
def kp_Mod_againOn : List (List Nat) := [[], [], [1086], [], [], [1070], [], [], [], [], [], [], []]
def kp_Mod_layAgain : List (List Nat) := [[], [], [], [935], [], [], [], [], [], [], [], [], [], [], [], [], [935], [], [], [], [], [], [], []]
def kp_Mod_remove : List (List Nat) := [[], [], [849], [], [1001], [], [], [], [], [907], [], [], [], [], [1063], [], [849], [], [1093], []]
def kp_Mod_removeOn : List (List Nat) := [[], [], [935], [], [], [], [], [], [], [], [], [], [], [], [], [935], [], [], [], [], [], [935], [], [], [], [], [], [], [], [], [], [], [], [], [], [], [], [], [1005], [], [], [], [1096], [], [], [], []]
def kp_Mod_cutTemplate : List (List Nat) := [[], [], [], [], [], [], [], [], [946], [], [], [], [], [], [946], [], [], [], [], [], [], [], [], [], [], [], [], [], [], [], [], [], [], [], [], [935], [], [], [], [], [], [], [935], [], [], [], [], [], [], [], [], [], [], [], [], []]
def kp_Mod_learn : List (List Nat) := [[], [1063], [], [], [849], [1103], []]
def kp_Mod_learnOn : List (List Nat) := [[], [], [], [], [], [], [], [], [], [], [], [], [], [], [], [], [], [], [], [], [1107], [], [], [], [], [], [], [], [946], [], [], [], [], [946], [], [], [], [], [], [], [], [], [], [], [], [], [], [], [], [935], [], [], [], [], [935], [], [], [], [], []] ++ ([[], [], [], [], [935], [], [], [], [], [], [], [], [], [1096], [], [], [], [], [], [], [], [], [], [], [], []])
def kp_Mod_partsAt : List (List Nat) := [[], [], [946], [], [], [], [], [], [946], [], [], [], [], [], [], [], [], [983], [], [959], [], [], [], [], [], [983], [], [959], [], [], [], [], [], [], [], [], [], [], [], [949], [], [], [], [], [949], [], [], [], [], [], [], [], [], [], [], [], [], [], [971], []] ++ ([[], [], [], [], [], [], [], [], [], [], [], [], [], [], [], [], [], [], [], [], [], [], [], [], [], [], [], [], [], [], [], [], [], [], [], [], []])
def kp_Mod_learnAll : List (List Nat) := [[], [1063], [], [], [849], [1115], []]
def kp_Mod_learnAllOn : List (List Nat) := [[], [], [], [], [], [], [1103], [], [], [], [], [], [], [], [], [], [], []]
def kp_Mod_open : List (List Nat) := [[], [], [849], [], [], [1028], [], [], [], [], [849], [], [], [949], [], [], [], [], [907], [], [], [], [], [1063], [], [849], [], [946], [], [], [], [], [], [], [], [], [849], [], [979], []]
def kp_Mod_forget : List (List Nat) := [[], [], [], [849], [1127], [], [], [], [], [907], [], [], [], [], [1063], [], [851], [], [], [849], [], [1067], [], [849], [], [], []]
def kp_Mod_anew : List (List Nat) := [[], [851], [], [], [], [], [851], [], [], [], [], [], [], [], [], [], [], [], [], [], [], [], [], [851], [], [935], [], [], [], [], [935], [], [], [], [], [], [], [], [], [851], [1051], [], [], [], [], [], [851], [1070], [], [], [], [], []]
def kp_Mod_undo : List (List Nat) := [[], [], [853], [], [], [], [], [907], [], [], [], [], [], [853], [], [], [853], [], [852], [], [], [853], [], [], [849], [], [1067], [], [853], []]
def kp_Mod_which : List (List Nat) := [[], [919], [], [], [], [], [], [849], [], [], [850], [], [1067], [], [], [850], [1047], [], [], [850], [], [850], [], [], [1055], []]
def kp_Mod_wouldCost : List (List Nat) := [[], [919], [], [], [], [], [], [849], [], [], [850], [], [1067], [], [], [850], [1047], [], [], [850], [1070], [], [], [], [850], [], [850], [], [], [], [], [942], []]
def kp_Mod_saves : List (List Nat) := [[], [849], [], [], [850], [], [1067], [], [], [850], [1103], [], [], [], [], [], [], [849], [938], [], [], [849], [975], [], [], [], [850], [938], [], [], [], [850], [975], [], []]
def kp_Mod_next : List (List Nat) := [[], [], [849], [], [1020], [], [], [], [], [], [], [], [], [907], [], [], [], [], [], [1151], [], [], [861], [], [], [860], [], [], [], [], []]
def kp_Mod_layAhead : List (List Nat) := [[], [849], [], [1040], [], [], [849], [], [], [956], [], [], [], [849], [], [], [959], [], [], [], [], [], [], [849], [], [], [959], [], [], [], [861], [], [], [], [], [], [], [858], [], [], [], [], [], [], [849], [], [963], [], [], [], [], [], [], [], [], [], [], [], [849], []] ++ ([[], [], [963], [], [], [], [], [], [], [], [1155], [], [], [], [], [], [1156], [], [857], [], [], [], [], [1156], [], [], [857], [], [], [1159], [], [], [], [], [], [857], [], [], [], [], [860], [], [861], [], [849], [], [856], [], [], [], [], [], [], [], [], [861], [], [], [861], []] ++ ([[], [], [], []]))
def kp_Mod_digitsOf : List (List Nat) := [[], [], [], [], [], [], [], [], [], [], [], [], [], [], [], []]
def kp_Mod_write : List (List Nat) := [[], [], [], [], [], [], [], [], [], [], [], [], [], [], [], [], [860], [], [861], [], [], [], [], [], [], [], [], [], [], [861], [], [], [861], [], [], [], [], [], []]
def kp_Mod_withValue : List (List Nat) := [[], [], [], [], [1167], [904], [], [], [], [], [907], [], [], [], [], [], [], [], [], [], [849], [], [], [], [], [], [849], [], [], [959], [], [], [], [], [], [], [], [], [], [], [], [858], [], [], [], [], [], [], [849], [], [963], [], [], [], [], [], [], [], [], []] ++ ([[], [], [], [], [], [], [], [], [], [], []])
def kp_Mod_runScript : List (List Nat) := [[], [], [], [], [], [], [], [], [], [], [], [1172], [], [], [], [], [], [], [], [], [1173], [904], [], [], [], [], [], [], [904], [], [], [], [], [907], [], [], [], [], [849], [], [], [850], [], [1067], [], [], [], [], [], [], [1172], [], [], [], [], [], [1172], [], [], []] ++ ([[], [], [], [], [], [], [], [], [], [], [], [], [1174], [], [], [], [], [], [], []])
def kp_Mod_command : List (List Nat) := [[], [], [], [], [], [], [], [], [], [], [], [], [], [850], [], [1001], [], [], [850], [], [], [], [], [], [], [850], [], [1082], [], [], [], [], [], [], [], [], [850], [], [1001], [], [], [850], [], [1093], [], [], [], [], [], [], [], [], [], [850], [1103], [], [], [], [], []] ++ ([[], [], [], [], [], [850], [1115], [], [], [], [], [], [], [], [], [850], [], [], [], [], [1028], [], [], [850], [], [], [], [], [949], [], [], [], [], [850], [], [946], [], [], [], [], [], [], [], [], [], [], [], [], [], [], [850], [1127], [], [], [], [], [851], [], [], [850]] ++ ([[], [1067], [], [], [], [], [], [850], [], [], [], [], [], [], [], [], [], [], [850], [938], [], [], [850], [975], [], [], [], [], [], [], [], [], [850], [], [1001], [], [], [850], [], [935], [], [], [], [], [], [], [], [], [], [], []]))
def kp_Mod_simulate : List (List Nat) := [[], [], [], [], [1182], [904], [], [], [], [], [907], [], [], [], [], [849], [], [], [850], [], [1067], [], [], [], [], [], [], [], [], [], [], [1183], [], [1184], [], [], [], [], [], [], [], [], [], [], [], [], [], [], [], [], [1185], [], [], [850], [1051], [], [], [], [850], [1070]] ++ ([[], [], [], [], [850], [1115], [], [], [], [], [], [850], [938], [], [], [850], [975], [], [], [], [], [850], [], [], [], [], [], [], [], [], [], [], []])
def kp_Mod_layDrawn : List (List Nat) := [[], [], [861], [], [], [], [], [], [], [], [], [1189], [], [], [], [], [], [], [], [], [1189], [], [], [1189], [], [], [1193], [], [], [], [], [], [], [], [], [], [], [1189], [], [], [], [], [], [], [], [], [1189], [], [1197], [], [], [], [], [], [], [1189], [], [], [], []] ++ ([[], [], [1193], [], [850], [], [], [935], [], [], [850], [], [], [861], [], [], [850], [], [], [], [], [], [], [], [], [], [861], [], [], [850], [], [], [], [], [], [], [860], [], [], [], [], [], []])
def kp_Mod_laySign : List (List Nat) := [[], [860], [], [861], [], [], [], [], [861], [], [], [861], []]
def kp_Mod_layDigits : List (List Nat) := [[], [], [], [1156], [1159], []]
def kp_Mod_save : List (List Nat) := [[], [], [], [], [], [904], [], [], [], [], [907], [], [], [], [], [849], [], [], [854], [], [], [], [1067], [], [855], [], [], [], [], [849], [], [], []]
def kp_Mod_restore : List (List Nat) := [[], [], [], [], [], [904], [], [], [], [], [855], [], [], [], [], [], [], [907], [], [], [], [], [854], [], [], [], [], [849], [], [1067], [], [], [853], [], [849], [], [], []]
def kp_Law_append : List (List Nat) := [[], [], [], [], [408], [], [], [], [], [], [], [], [], [], [], []]
def kp_Law_about : List (List Nat) := [[], [], [], [], [499], [], [], [], [], [], [], [], []]
def kp_Law_line : List (List Nat) := [[], [], [], [], [], [527], [], [], [], [], [], [], [], [], [], [], []]
def kp_Law_charAt : List (List Nat) := [[], [], [], [], [], [560], [], [], [], [], [], [], [], [], [], [], []]
def kp_Law_value : List (List Nat) := [[], [], [], [], [], [572], [], [], [], [], [], [], [], []]
def kp_Law_template : List (List Nat) := [[], [], [], [], [], [584], [], [], [], [], [], [], [], [], [], [], []]
def kp_Law_piece : List (List Nat) := [[], [], [], [], [], [], [604], [], [], [], [], [], [], [], [], [], [], []]
def kp_Law_rises : List (List Nat) := [[], [], [], [], [], [620], [], [], [], [], [], [], [], []]
def kp_Law_take : List (List Nat) := [[], [], [], [630], [], [], [], [], [], [], [], []]
def kp_Law_again : List (List Nat) := [[], [], [], [], [648], [], [], [], [], [], [], [], [], [], [], []]
def kp_Law_remove : List (List Nat) := [[], [], [], [], [655], [], [], [], [], [], [], [], []]
def kp_Law_open : List (List Nat) := [[], [], [], [], [], [671], [], [], [], [], [], [], [], [], [], [], []]
def kp_Law_forget : List (List Nat) := [[], [], [], [680], [], [], [], [], [], [], [], []]
def kp_Law_undo : List (List Nat) := [[], [], [], [695], [], [], [], [], [], [], [], []]
def kp_Law_next : List (List Nat) := [[], [], [], [], [], [707], [], [], [], [], [], [], [], [], [], [], []]
def kp_Law_withValue : List (List Nat) := [[], [], [], [], [740], [], [], [], [], [], [], [], []]
def kp_Law_runScript : List (List Nat) := [[], [], [], [], [], [755], [], [], [], [], [], [], [], []]
def kp_Law_simulate : List (List Nat) := [[], [], [], [], [], [794], [], [], [], [], [], [], [], []]
def kp_Law_save : List (List Nat) := [[], [], [], [], [820], [], [], [], [], [], [], [], []]
def kp_Law_restore : List (List Nat) := [[], [], [], [], [831], [], [], [], [], [], [], [], [], [], [], []]
def kp_Law_law : List (List Nat) := [[87], [], [89], [], [840], [], [842], [], [], [], [], [], [], [], [], [], [], [], [], [], [], [], [], [], [], [], [], [], [], [], [], [], [403], [], [], [], [], [], [], [], [899], [], [], [895], [], [], [], [], [], [], [], [], [], [], [], [], [], [], [], []] ++ ([[], [224], [], [911], [], [], [], [], [228], [], [915], [], [], [], [], [], [], [], [], [], [], [496], [], [], [], [], [], [], [], [930], [], [], [895], [], [], [], [], [], [], [], [], [], [], [], [], [], [], [], [], [], [], [], [], [], [], [], [], [], [], []] ++ ([[], [523], [], [], [], [], [], [], [], [], [], [], [], [], [997], [], [], [895], [], [], [], [], [], [], [], [], [], [], [], [], [], [], [], [], [], [], [], [], [], [], [], [], [], [], [], [], [557], [], [], [], [], [], [], [], [], [], [], [], [], [1008]] ++ ([[], [], [895], [], [], [], [], [], [], [], [], [], [], [], [], [], [], [], [], [], [], [], [], [], [], [], [], [], [], [], [], [569], [], [], [], [], [], [], [], [], [], [], [], [], [1012], [], [], [895], [], [], [], [], [], [], [], [], [], [], [], []] ++ ([[], [], [], [], [], [], [], [], [], [], [], [], [], [], [], [], [581], [], [], [], [], [], [], [], [], [], [], [], [], [1016], [], [], [895], [], [], [], [], [], [], [], [], [], [], [], [], [], [], [], [], [], [], [], [], [], [], [], [], [], [], []] ++ ([[], [], [], [], [], [], [601], [], [], [], [], [], [], [], [], [], [], [], [], [], [], [], [], [], [1024], [], [], [895], [], [], [], [], [], [], [], [], [], [], [], [], [], [], [], [], [], [], [], [], [], [], [], [], [], [], [], [], [617], [], [], []] ++ ([[], [], [], [], [], [], [], [], [], [1036], [], [], [895], [], [], [], [], [], [], [], [], [], [], [], [], [], [], [], [], [], [], [627], [], [], [1043], [], [], [895], [], [], [], [], [], [], [], [], [], [], [], [], [], [], [], [], [], [], [], [], [], []] ++ ([[], [645], [], [], [], [], [], [], [], [1078], [], [], [895], [], [], [], [], [], [], [], [], [], [], [], [], [], [], [], [], [], [], [], [], [], [], [], [652], [], [], [], [], [], [], [], [1089], [], [], [895], [], [], [], [], [], [], [], [], [], [], [], []] ++ ([[], [], [], [], [], [255], [], [1099], [], [], [], [], [314], [], [1111], [], [], [], [], [], [], [], [], [], [], [], [], [], [], [], [668], [], [], [], [], [], [], [], [], [], [], [], [], [1119], [], [], [895], [], [], [], [], [], [], [], [], [], [], [], [], []] ++ ([[], [], [], [], [], [677], [], [], [1123], [], [], [895], [], [], [], [], [], [], [], [], [], [], [], [], [], [], [], [], [], [], [692], [], [], [1131], [], [], [895], [], [], [], [], [], [], [], [], [], [], [], [], [], [], [], [], [], [322], [], [1135], [], [], []] ++ ([[], [335], [], [1139], [], [], [], [], [381], [], [1143], [], [], [], [], [], [], [], [], [], [], [], [], [], [], [], [704], [], [], [], [], [], [], [], [], [], [], [], [], [1147], [], [], [895], [], [], [], [], [], [], [], [], [], [], [], [], [], [], [], [], []] ++ ([[], [], [], [], [], [], [737], [], [], [], [], [], [], [], [1163], [], [], [895], [], [], [], [], [], [], [], [], [], [], [], [], [], [], [], [], [], [], [], [], [], [], [], [], [], [], [], [], [], [], [], [], [], [], [], [], [1206], [], [], [], [752], []] ++ ([[], [], [], [], [], [], [], [], [], [], [], [], [], [], [], [], [], [], [], [], [1206], [], [], [1168], [], [], [895], [], [], [], [], [], [], [], [], [], [], [], [], [], [], [], [], [], [], [], [], [], [], [], [], [], [], [], [], [], [], [], [1206], []] ++ ([[], [], [], [], [], [], [], [791], [], [], [], [], [], [], [], [], [], [], [], [], [], [], [], [], [1206], [], [], [], [], [], [], [], [1178], [], [], [895], [], [], [], [], [], [], [], [], [], [], [], [], [], [], [], [], [], [], [], [], [], [], [], [817]] ++ ([[], [], [], [], [], [], [], [1198], [], [], [895], [], [], [], [], [], [], [], [], [], [], [], [], [], [], [], [], [], [], [], [], [], [], [], [828], [], [], [], [], [], [], [], [1202], [], [], [895], [], [], [], [], [], [], [], [], [], [], [], [], [], []] ++ ([[], [], [], [], [], []])))))))))))))))
def mv_pp : List (List (List Nat)) := [kp_Math_floorMod,
  kp_Math_max,
  kp_Math_min,
  kp_Obj_init,
  kp_Line_init,
  kp_Line_clear,
  kp_Line_addCharacter,
  kp_Line_growsLastPiece,
  kp_Line_kindAt,
  kp_Line_isWrittenLike,
  kp_Line_sizeAt,
  kp_Line_valueAt,
  kp_Line_characterAt,
  kp_Line_startAt,
  kp_Line_addNumber,
  kp_State_init,
  kp_State_copyFrom,
  kp_State_sampleAt,
  kp_State_kindIn,
  kp_State_isOpen,
  kp_State_openWord,
  kp_State_moveLines,
  kp_State_dropTemplate,
  kp_State_firstFit,
  kp_State_fits,
  kp_State_lastOf,
  kp_State_lineAt,
  kp_State_templateAt,
  kp_State_firstOf,
  kp_State_templateFor,
  kp_State_put,
  kp_State_dropLine,
  kp_State_hasLine,
  kp_State_takeLinesOf,
  kp_Hist_init,
  kp_Hist_remember,
  kp_Hist_placeBehindOldest,
  kp_Hist_takeBack,
  kp_Hist_forgetAll,
  kp_LT_init,
  kp_LT_clearText,
  kp_LT_errorPosition,
  kp_LT_readText,
  kp_LT_kindOfCharacter,
  kp_LT_learn,
  kp_LT_isSlot,
  kp_LT_learnAll,
  kp_LT_which,
  kp_LT_wouldCost,
  kp_LT_saves,
  kp_LT_append,
  kp_LT_about,
  kp_LT_line,
  kp_LT_checkLine,
  kp_LT_charAt,
  kp_LT_value,
  kp_LT_checkPiece,
  kp_LT_template,
  kp_LT_checkTemplate,
  kp_LT_piece,
  kp_LT_rises,
  kp_LT_take,
  kp_LT_again,
  kp_LT_remove,
  kp_LT_open,
  kp_LT_forget,
  kp_LT_undo,
  kp_LT_next,
  kp_LT_countDigits,
  kp_LT_digitCharacter,
  kp_LT_withValue,
  kp_LT_runScript,
  kp_LT_simulate,
  kp_LT_simulateLines,
  kp_LT_writeSimulated,
  kp_LT_save,
  kp_LT_checkSlot,
  kp_LT_restore,
  kp_Costs_ofLineAt,
  kp_Costs_ofNumber,
  kp_Costs_ofAll,
  kp_Costs_ofLines,
  kp_Costs_ofTemplates,
  kp_Costs_ofTemplate,
  kp_Counts_isSeenBefore,
  kp_Counts_charactersOfLines,
  kp_Counts_slotsOfTemplates,
  kp_Counts_slotsOfTemplate,
  kp_Counts_differentWords,
  kp_Counts_isWordBefore,
  kp_Counts_linesBefore,
  kp_Counts_differentThings,
  kp_Counts_risingLines,
  kp_Counts_linesWithValue,
  kp_Counts_hasValue,
  kp_Exp_valueBehind,
  kp_Exp_characterAt,
  kp_Exp_digitsFor,
  kp_Learn_learnFirstPair,
  kp_Learn_onlyDifference,
  kp_Learn_learnAllPairs,
  kp_Scr_withoutLowestGroups,
  kp_Scr_succeeds,
  kp_Scr_takesAgain,
  kp_Scr_removes,
  kp_Scr_opens,
  kp_Mod_init,
  kp_Mod_thrown,
  kp_Mod_append,
  kp_Mod_in,
  kp_Mod_refused,
  kp_Mod_clearText,
  kp_Mod_errorPosition,
  kp_Mod_wrong,
  kp_Mod_signKind,
  kp_Mod_about,
  kp_Mod_lineAt,
  kp_Mod_costOfLines,
  kp_Mod_costOfLine,
  kp_Mod_templateAt,
  kp_Mod_kindOf,
  kp_Mod_numberCost,
  kp_Mod_lineBefore,
  kp_Mod_cut,
  kp_Mod_valueAt,
  kp_Mod_wordCost,
  kp_Mod_areSame,
  kp_Mod_costOfTemplates,
  kp_Mod_costOfTemplate,
  kp_Mod_firstLine,
  kp_Mod_differentWords,
  kp_Mod_isNewWord,
  kp_Mod_slots,
  kp_Mod_line,
  kp_Mod_isLine,
  kp_Mod_linesOf,
  kp_Mod_charAt,
  kp_Mod_value,
  kp_Mod_template,
  kp_Mod_isTemplate,
  kp_Mod_piece,
  kp_Mod_isPiece,
  kp_Mod_isNewThing,
  kp_Mod_rises,
  kp_Mod_lastLine,
  kp_Mod_take,
  kp_Mod_layText,
  kp_Mod_canSettle,
  kp_Mod_templateFor,
  kp_Mod_fits,
  kp_Mod_remember,
  kp_Mod_copyLog,
  kp_Mod_settle,
  kp_Mod_addTemplate,
  kp_Mod_again,
  kp_Mod_againOn,
  kp_Mod_layAgain,
  kp_Mod_remove,
  kp_Mod_removeOn,
  kp_Mod_cutTemplate,
  kp_Mod_learn,
  kp_Mod_learnOn,
  kp_Mod_partsAt,
  kp_Mod_learnAll,
  kp_Mod_learnAllOn,
  kp_Mod_open,
  kp_Mod_forget,
  kp_Mod_anew,
  kp_Mod_undo,
  kp_Mod_which,
  kp_Mod_wouldCost,
  kp_Mod_saves,
  kp_Mod_next,
  kp_Mod_layAhead,
  kp_Mod_digitsOf,
  kp_Mod_write,
  kp_Mod_withValue,
  kp_Mod_runScript,
  kp_Mod_command,
  kp_Mod_simulate,
  kp_Mod_layDrawn,
  kp_Mod_laySign,
  kp_Mod_layDigits,
  kp_Mod_save,
  kp_Mod_restore,
  kp_Law_append,
  kp_Law_about,
  kp_Law_line,
  kp_Law_charAt,
  kp_Law_value,
  kp_Law_template,
  kp_Law_piece,
  kp_Law_rises,
  kp_Law_take,
  kp_Law_again,
  kp_Law_remove,
  kp_Law_open,
  kp_Law_forget,
  kp_Law_undo,
  kp_Law_next,
  kp_Law_withValue,
  kp_Law_runScript,
  kp_Law_simulate,
  kp_Law_save,
  kp_Law_restore,
  kp_Law_law]
end
section
/-! what the kernel checks of the tables: each row is the decoded instruction, each pool entry is a word of the claim; written by wip/whole/emitchk.py -/
/-- the method that a call names; of 1000 on: by a link between nest mates -/
def mv_z (a : Int) : Nat := (a % 1000).toNat
def mv_ce (t : Nat) : Nat := if t = 13 then 0 else if t = 15 then 1 else 2
def mv_pk (y : Nat) (i : Instr) (a : Int) (pl : List Nat) : Bool := match i, pl with
  | .ldc x, [p] => mv_at (.constant (mv_ow y) x (Int32.ofInt a)) p
  | .ldc_w x, [p] => mv_at (.constant (mv_ow y) x (Int32.ofInt a)) p
  | .ldc2_w x, [p] => mv_at (.constantLong (mv_ow y) x (Int64.ofInt a)) p
  | .getfield x, [p] => mv_at (.fieldLink (mv_ow y) x (mv_cn (a / 100).toNat) (mv_cT (a / 100).toNat (a % 100).toNat).2.1 (mv_cT (a / 100).toNat (a % 100).toNat).2.2.1) p || mv_at (.fieldLinkNest (mv_ow y) x (mv_cn (a / 100).toNat) (mv_cT (a / 100).toNat (a % 100).toNat).2.1 (mv_cT (a / 100).toNat (a % 100).toNat).2.2.1 "LineTemplates") p
  | .putfield x, [p] => mv_at (.fieldLink (mv_ow y) x (mv_cn (a / 100).toNat) (mv_cT (a / 100).toNat (a % 100).toNat).2.1 (mv_cT (a / 100).toNat (a % 100).toNat).2.2.1) p && ((mv_cT (a / 100).toNat (a % 100).toNat).2.2.2 == false || (decide ((mv_y y).name = "<init>") && decide (mv_cn (a / 100).toNat = mv_ow y)))
  | .invokestatic x, [p] => (if a < 1000 then mv_at (.methodLink (mv_ow y) x (mv_y (mv_z a))) p else mv_at (.methodLinkNest (mv_ow y) x (mv_y (mv_z a)) "LineTemplates") p && (mv_hh (mv_z a)).isEmpty) && decide (mv_fr (mv_z a) + 1 ≤ mv_fr y) && decide (8 + ((mv_m (mv_z a)).2.2.1 + 11) + mv_lo (mv_z a) ≤ mv_lo y) && mv_sb (mv_z a)
  | .invokevirtual x, [p] => (if a < 1000 then mv_at (.methodLink (mv_ow y) x (mv_y (mv_z a))) p else mv_at (.methodLinkNest (mv_ow y) x (mv_y (mv_z a)) "LineTemplates") p) && decide (mv_fr (mv_z a) + 1 ≤ mv_fr y) && decide (8 + ((mv_m (mv_z a)).2.2.1 + 11) + mv_lo (mv_z a) ≤ mv_lo y) && (mv_sb (mv_z a) == false) && (mv_hh (mv_z a)).isEmpty && decide ((mv_y (mv_z a)).name ≠ "<init>")
  | .invokespecial x, [p] => (if a < 1000 then mv_at (.methodLink (mv_ow y) x (mv_y (mv_z a))) p else mv_at (.methodLinkNest (mv_ow y) x (mv_y (mv_z a)) "LineTemplates") p && decide (mv_z a ≠ 3)) && decide (mv_fr (mv_z a) + 1 ≤ mv_fr y) && decide (8 + ((mv_m (mv_z a)).2.2.1 + 11) + mv_lo (mv_z a) ≤ mv_lo y) && (mv_sb (mv_z a) == false) && (mv_hh (mv_z a)).isEmpty && decide ((mv_y (mv_z a)).name = "<init>")
  | .new x, [p] => if a < 0 then mv_at (.classLink (mv_ow y) x (mv_xn (-1 - a).toNat)) p && decide (mv_ow y = "LineTemplates") && decide (-3 ≤ a) && (mv_hh y).isEmpty else mv_at (.classLink (mv_ow y) x (mv_cn a.toNat)) p
  | .anewarray x, [p] => mv_at (.classLink (mv_ow y) x (mv_cn (a - 13).toNat)) p && (decide (a = 14) || decide (a = 15))
  | .ldc _, _ => false
  | .ldc_w _, _ => false
  | .ldc2_w _, _ => false
  | .getfield _, _ => false
  | .putfield _, _ => false
  | .invokestatic _, _ => false
  | .invokevirtual _, _ => false
  | .invokespecial _, _ => false
  | .new _, _ => false
  | .anewarray _, _ => false
  | _, _ => true
def mv_pz (y : Nat) : mv_K → List (List Nat) → Bool
  | [], _ => true
  | (_, i, a) :: k, pl :: r => mv_pk y i a pl && mv_pz y k r
  | _ :: _, [] => false
def mv_rkt (k : Nat) (r : Option FieldType) : Bool := match k with
  | 0 => decide (r = some .int)
  | 1 => decide (r = some .long)
  | 2 => match r with
    | some (.object _) => true
    | _ => false
  | 3 => decide (r = none)
  | _ => decide (r = some .boolean)
def mv_mk (z : Nat) (pl : List Nat) : Bool := match pl with
  | c :: i :: r => mv_at (.initialized (mv_ow z)) i && plainFor (mv_y z) && decide (mv_ow z ≠ "java/lang/invoke/MethodHandle") && decide (mv_ow z ≠ "java/lang/invoke/VarHandle") && mv_rkt (mv_m z).2.2.2.1 (mv_rt z) && decide ((mv_m z).2.2.2.2.2 = (mv_hh z).map fun q => (q.1, q.2.1, q.2.2.1, mv_ce q.2.2.2)) && (mv_hh z).all (fun q => decide (q.2.2.2 = 13) || decide (q.2.2.2 = 15) || decide (q.2.2.2 = 24)) && (decide (mv_ow z = "LineTemplatesLaw") || (mv_hh z).isEmpty) &&
    (if (mv_hh z).isEmpty then mv_at (.code (mv_y z) (mv_by z) (mv_m z).2.2.1 (mv_rt z)) c else mv_at (.codeWith (mv_y z) (mv_by z) (mv_m z).2.2.1 (mv_rt z) (mv_hh z)) c && mv_sb z) &&
    (if mv_sb z then (match r with
      | [s] => mv_at (.static (mv_y z)) s && decide ((parseMethodDescriptor (mv_y z).desc).map (fun d => d.parameters.length) = some (mv_m z).2.1)
      | _ => false)
    else decide ((parseMethodDescriptor (mv_y z).desc).map (fun d => d.parameters.length + 1) = some (mv_m z).2.1) && decide ((mv_m z).2.2.2.2.1 < 5) && decide (mv_cn (mv_m z).2.2.2.2.1 = mv_ow z) && (match r with
      | [im] => mv_at (.instanceMethod (mv_y z)) im && decide ((mv_y z).name = "<init>") && decide ((mv_m z).2.2.2.1 = 3)
      | [im, se] => mv_at (.instanceMethod (mv_y z)) im && mv_at (.selects (mv_ow z) (mv_y z) (mv_y z)) se
      | _ => false))
  | _ => decide (z = 3) || decide (205 ≤ z)
end
section
set_option maxRecDepth 100000 in
theorem mv_dk_0 : mv_dk (mv_by 0) (mv_m 0).1 = true := by decide +kernel
set_option maxRecDepth 100000 in
theorem mv_dk_1 : mv_dk (mv_by 1) (mv_m 1).1 = true := by decide +kernel
set_option maxRecDepth 100000 in
theorem mv_dk_2 : mv_dk (mv_by 2) (mv_m 2).1 = true := by decide +kernel
set_option maxRecDepth 100000 in
theorem mv_dk_3 : mv_dk (mv_by 3) (mv_m 3).1 = true := by decide +kernel
set_option maxRecDepth 100000 in
theorem mv_dk_4 : mv_dk (mv_by 4) (mv_m 4).1 = true := by decide +kernel
set_option maxRecDepth 100000 in
theorem mv_dk_5 : mv_dk (mv_by 5) (mv_m 5).1 = true := by decide +kernel
set_option maxRecDepth 100000 in
theorem mv_dk_6 : mv_dk (mv_by 6) (mv_m 6).1 = true := by decide +kernel
set_option maxRecDepth 100000 in
theorem mv_dk_7 : mv_dk (mv_by 7) (mv_m 7).1 = true := by decide +kernel
set_option maxRecDepth 100000 in
theorem mv_dk_8 : mv_dk (mv_by 8) (mv_m 8).1 = true := by decide +kernel
set_option maxRecDepth 100000 in
theorem mv_dk_9 : mv_dk (mv_by 9) (mv_m 9).1 = true := by decide +kernel
set_option maxRecDepth 100000 in
theorem mv_dk_10 : mv_dk (mv_by 10) (mv_m 10).1 = true := by decide +kernel
set_option maxRecDepth 100000 in
theorem mv_dk_11 : mv_dk (mv_by 11) (mv_m 11).1 = true := by decide +kernel
set_option maxRecDepth 100000 in
theorem mv_dk_12 : mv_dk (mv_by 12) (mv_m 12).1 = true := by decide +kernel
set_option maxRecDepth 100000 in
theorem mv_dk_13 : mv_dk (mv_by 13) (mv_m 13).1 = true := by decide +kernel
set_option maxRecDepth 100000 in
theorem mv_dk_14 : mv_dk (mv_by 14) (mv_m 14).1 = true := by decide +kernel
set_option maxRecDepth 100000 in
theorem mv_dk_15 : mv_dk (mv_by 15) (mv_m 15).1 = true := by decide +kernel
set_option maxRecDepth 100000 in
theorem mv_dk_16 : mv_dk (mv_by 16) (mv_m 16).1 = true := by decide +kernel
set_option maxRecDepth 100000 in
theorem mv_dk_17 : mv_dk (mv_by 17) (mv_m 17).1 = true := by decide +kernel
set_option maxRecDepth 100000 in
theorem mv_dk_18 : mv_dk (mv_by 18) (mv_m 18).1 = true := by decide +kernel
set_option maxRecDepth 100000 in
theorem mv_dk_19 : mv_dk (mv_by 19) (mv_m 19).1 = true := by decide +kernel
set_option maxRecDepth 100000 in
theorem mv_dk_20 : mv_dk (mv_by 20) (mv_m 20).1 = true := by decide +kernel
set_option maxRecDepth 100000 in
theorem mv_dk_21 : mv_dk (mv_by 21) (mv_m 21).1 = true := by decide +kernel
set_option maxRecDepth 100000 in
theorem mv_dk_22 : mv_dk (mv_by 22) (mv_m 22).1 = true := by decide +kernel
set_option maxRecDepth 100000 in
theorem mv_dk_23 : mv_dk (mv_by 23) (mv_m 23).1 = true := by decide +kernel
set_option maxRecDepth 100000 in
theorem mv_dk_24 : mv_dk (mv_by 24) (mv_m 24).1 = true := by decide +kernel
set_option maxRecDepth 100000 in
theorem mv_dk_25 : mv_dk (mv_by 25) (mv_m 25).1 = true := by decide +kernel
set_option maxRecDepth 100000 in
theorem mv_dk_26 : mv_dk (mv_by 26) (mv_m 26).1 = true := by decide +kernel
set_option maxRecDepth 100000 in
theorem mv_dk_27 : mv_dk (mv_by 27) (mv_m 27).1 = true := by decide +kernel
set_option maxRecDepth 100000 in
theorem mv_dk_28 : mv_dk (mv_by 28) (mv_m 28).1 = true := by decide +kernel
set_option maxRecDepth 100000 in
theorem mv_dk_29 : mv_dk (mv_by 29) (mv_m 29).1 = true := by decide +kernel
set_option maxRecDepth 100000 in
theorem mv_dk_30 : mv_dk (mv_by 30) (mv_m 30).1 = true := by decide +kernel
set_option maxRecDepth 100000 in
theorem mv_dk_31 : mv_dk (mv_by 31) (mv_m 31).1 = true := by decide +kernel
set_option maxRecDepth 100000 in
theorem mv_dk_32 : mv_dk (mv_by 32) (mv_m 32).1 = true := by decide +kernel
set_option maxRecDepth 100000 in
theorem mv_dk_33 : mv_dk (mv_by 33) (mv_m 33).1 = true := by decide +kernel
set_option maxRecDepth 100000 in
theorem mv_dk_34 : mv_dk (mv_by 34) (mv_m 34).1 = true := by decide +kernel
set_option maxRecDepth 100000 in
theorem mv_dk_35 : mv_dk (mv_by 35) (mv_m 35).1 = true := by decide +kernel
set_option maxRecDepth 100000 in
theorem mv_dk_36 : mv_dk (mv_by 36) (mv_m 36).1 = true := by decide +kernel
set_option maxRecDepth 100000 in
theorem mv_dk_37 : mv_dk (mv_by 37) (mv_m 37).1 = true := by decide +kernel
set_option maxRecDepth 100000 in
theorem mv_dk_38 : mv_dk (mv_by 38) (mv_m 38).1 = true := by decide +kernel
set_option maxRecDepth 100000 in
theorem mv_dk_39 : mv_dk (mv_by 39) (mv_m 39).1 = true := by decide +kernel
set_option maxRecDepth 100000 in
theorem mv_dk_40 : mv_dk (mv_by 40) (mv_m 40).1 = true := by decide +kernel
set_option maxRecDepth 100000 in
theorem mv_dk_41 : mv_dk (mv_by 41) (mv_m 41).1 = true := by decide +kernel
set_option maxRecDepth 100000 in
theorem mv_dk_42 : mv_dk (mv_by 42) (mv_m 42).1 = true := by decide +kernel
set_option maxRecDepth 100000 in
theorem mv_dk_43 : mv_dk (mv_by 43) (mv_m 43).1 = true := by decide +kernel
set_option maxRecDepth 100000 in
theorem mv_dk_44 : mv_dk (mv_by 44) (mv_m 44).1 = true := by decide +kernel
set_option maxRecDepth 100000 in
theorem mv_dk_45 : mv_dk (mv_by 45) (mv_m 45).1 = true := by decide +kernel
set_option maxRecDepth 100000 in
theorem mv_dk_46 : mv_dk (mv_by 46) (mv_m 46).1 = true := by decide +kernel
set_option maxRecDepth 100000 in
theorem mv_dk_47 : mv_dk (mv_by 47) (mv_m 47).1 = true := by decide +kernel
set_option maxRecDepth 100000 in
theorem mv_dk_48 : mv_dk (mv_by 48) (mv_m 48).1 = true := by decide +kernel
set_option maxRecDepth 100000 in
theorem mv_dk_49 : mv_dk (mv_by 49) (mv_m 49).1 = true := by decide +kernel
set_option maxRecDepth 100000 in
theorem mv_dk_50 : mv_dk (mv_by 50) (mv_m 50).1 = true := by decide +kernel
set_option maxRecDepth 100000 in
theorem mv_dk_51 : mv_dk (mv_by 51) (mv_m 51).1 = true := by decide +kernel
set_option maxRecDepth 100000 in
theorem mv_dk_52 : mv_dk (mv_by 52) (mv_m 52).1 = true := by decide +kernel
set_option maxRecDepth 100000 in
theorem mv_dk_53 : mv_dk (mv_by 53) (mv_m 53).1 = true := by decide +kernel
set_option maxRecDepth 100000 in
theorem mv_dk_54 : mv_dk (mv_by 54) (mv_m 54).1 = true := by decide +kernel
set_option maxRecDepth 100000 in
theorem mv_dk_55 : mv_dk (mv_by 55) (mv_m 55).1 = true := by decide +kernel
set_option maxRecDepth 100000 in
theorem mv_dk_56 : mv_dk (mv_by 56) (mv_m 56).1 = true := by decide +kernel
set_option maxRecDepth 100000 in
theorem mv_dk_57 : mv_dk (mv_by 57) (mv_m 57).1 = true := by decide +kernel
set_option maxRecDepth 100000 in
theorem mv_dk_58 : mv_dk (mv_by 58) (mv_m 58).1 = true := by decide +kernel
set_option maxRecDepth 100000 in
theorem mv_dk_59 : mv_dk (mv_by 59) (mv_m 59).1 = true := by decide +kernel
set_option maxRecDepth 100000 in
theorem mv_dk_60 : mv_dk (mv_by 60) (mv_m 60).1 = true := by decide +kernel
set_option maxRecDepth 100000 in
theorem mv_dk_61 : mv_dk (mv_by 61) (mv_m 61).1 = true := by decide +kernel
set_option maxRecDepth 100000 in
theorem mv_dk_62 : mv_dk (mv_by 62) (mv_m 62).1 = true := by decide +kernel
set_option maxRecDepth 100000 in
theorem mv_dk_63 : mv_dk (mv_by 63) (mv_m 63).1 = true := by decide +kernel
set_option maxRecDepth 100000 in
theorem mv_dk_64 : mv_dk (mv_by 64) (mv_m 64).1 = true := by decide +kernel
set_option maxRecDepth 100000 in
theorem mv_dk_65 : mv_dk (mv_by 65) (mv_m 65).1 = true := by decide +kernel
set_option maxRecDepth 100000 in
theorem mv_dk_66 : mv_dk (mv_by 66) (mv_m 66).1 = true := by decide +kernel
set_option maxRecDepth 100000 in
theorem mv_dk_67 : mv_dk (mv_by 67) (mv_m 67).1 = true := by decide +kernel
set_option maxRecDepth 100000 in
theorem mv_dk_68 : mv_dk (mv_by 68) (mv_m 68).1 = true := by decide +kernel
set_option maxRecDepth 100000 in
theorem mv_dk_69 : mv_dk (mv_by 69) (mv_m 69).1 = true := by decide +kernel
set_option maxRecDepth 100000 in
theorem mv_dk_70 : mv_dk (mv_by 70) (mv_m 70).1 = true := by decide +kernel
set_option maxRecDepth 100000 in
theorem mv_dk_71 : mv_dk (mv_by 71) (mv_m 71).1 = true := by decide +kernel
set_option maxRecDepth 100000 in
theorem mv_dk_72 : mv_dk (mv_by 72) (mv_m 72).1 = true := by decide +kernel
set_option maxRecDepth 100000 in
theorem mv_dk_73 : mv_dk (mv_by 73) (mv_m 73).1 = true := by decide +kernel
set_option maxRecDepth 100000 in
theorem mv_dk_74 : mv_dk (mv_by 74) (mv_m 74).1 = true := by decide +kernel
set_option maxRecDepth 100000 in
theorem mv_dk_75 : mv_dk (mv_by 75) (mv_m 75).1 = true := by decide +kernel
set_option maxRecDepth 100000 in
theorem mv_dk_76 : mv_dk (mv_by 76) (mv_m 76).1 = true := by decide +kernel
set_option maxRecDepth 100000 in
theorem mv_dk_77 : mv_dk (mv_by 77) (mv_m 77).1 = true := by decide +kernel
set_option maxRecDepth 100000 in
theorem mv_dk_78 : mv_dk (mv_by 78) (mv_m 78).1 = true := by decide +kernel
set_option maxRecDepth 100000 in
theorem mv_dk_79 : mv_dk (mv_by 79) (mv_m 79).1 = true := by decide +kernel
set_option maxRecDepth 100000 in
theorem mv_dk_80 : mv_dk (mv_by 80) (mv_m 80).1 = true := by decide +kernel
set_option maxRecDepth 100000 in
theorem mv_dk_81 : mv_dk (mv_by 81) (mv_m 81).1 = true := by decide +kernel
set_option maxRecDepth 100000 in
theorem mv_dk_82 : mv_dk (mv_by 82) (mv_m 82).1 = true := by decide +kernel
set_option maxRecDepth 100000 in
theorem mv_dk_83 : mv_dk (mv_by 83) (mv_m 83).1 = true := by decide +kernel
set_option maxRecDepth 100000 in
theorem mv_dk_84 : mv_dk (mv_by 84) (mv_m 84).1 = true := by decide +kernel
set_option maxRecDepth 100000 in
theorem mv_dk_85 : mv_dk (mv_by 85) (mv_m 85).1 = true := by decide +kernel
set_option maxRecDepth 100000 in
theorem mv_dk_86 : mv_dk (mv_by 86) (mv_m 86).1 = true := by decide +kernel
set_option maxRecDepth 100000 in
theorem mv_dk_87 : mv_dk (mv_by 87) (mv_m 87).1 = true := by decide +kernel
set_option maxRecDepth 100000 in
theorem mv_dk_88 : mv_dk (mv_by 88) (mv_m 88).1 = true := by decide +kernel
set_option maxRecDepth 100000 in
theorem mv_dk_89 : mv_dk (mv_by 89) (mv_m 89).1 = true := by decide +kernel
set_option maxRecDepth 100000 in
theorem mv_dk_90 : mv_dk (mv_by 90) (mv_m 90).1 = true := by decide +kernel
set_option maxRecDepth 100000 in
theorem mv_dk_91 : mv_dk (mv_by 91) (mv_m 91).1 = true := by decide +kernel
set_option maxRecDepth 100000 in
theorem mv_dk_92 : mv_dk (mv_by 92) (mv_m 92).1 = true := by decide +kernel
set_option maxRecDepth 100000 in
theorem mv_dk_93 : mv_dk (mv_by 93) (mv_m 93).1 = true := by decide +kernel
set_option maxRecDepth 100000 in
theorem mv_dk_94 : mv_dk (mv_by 94) (mv_m 94).1 = true := by decide +kernel
set_option maxRecDepth 100000 in
theorem mv_dk_95 : mv_dk (mv_by 95) (mv_m 95).1 = true := by decide +kernel
set_option maxRecDepth 100000 in
theorem mv_dk_96 : mv_dk (mv_by 96) (mv_m 96).1 = true := by decide +kernel
set_option maxRecDepth 100000 in
theorem mv_dk_97 : mv_dk (mv_by 97) (mv_m 97).1 = true := by decide +kernel
set_option maxRecDepth 100000 in
theorem mv_dk_98 : mv_dk (mv_by 98) (mv_m 98).1 = true := by decide +kernel
set_option maxRecDepth 100000 in
theorem mv_dk_99 : mv_dk (mv_by 99) (mv_m 99).1 = true := by decide +kernel
set_option maxRecDepth 100000 in
theorem mv_dk_100 : mv_dk (mv_by 100) (mv_m 100).1 = true := by decide +kernel
set_option maxRecDepth 100000 in
theorem mv_dk_101 : mv_dk (mv_by 101) (mv_m 101).1 = true := by decide +kernel
set_option maxRecDepth 100000 in
theorem mv_dk_102 : mv_dk (mv_by 102) (mv_m 102).1 = true := by decide +kernel
set_option maxRecDepth 100000 in
theorem mv_dk_103 : mv_dk (mv_by 103) (mv_m 103).1 = true := by decide +kernel
set_option maxRecDepth 100000 in
theorem mv_dk_104 : mv_dk (mv_by 104) (mv_m 104).1 = true := by decide +kernel
set_option maxRecDepth 100000 in
theorem mv_dk_105 : mv_dk (mv_by 105) (mv_m 105).1 = true := by decide +kernel
set_option maxRecDepth 100000 in
theorem mv_dk_106 : mv_dk (mv_by 106) (mv_m 106).1 = true := by decide +kernel
set_option maxRecDepth 100000 in
theorem mv_dk_107 : mv_dk (mv_by 107) (mv_m 107).1 = true := by decide +kernel
set_option maxRecDepth 100000 in
theorem mv_dk_108 : mv_dk (mv_by 108) (mv_m 108).1 = true := by decide +kernel
set_option maxRecDepth 100000 in
theorem mv_dk_109 : mv_dk (mv_by 109) (mv_m 109).1 = true := by decide +kernel
set_option maxRecDepth 100000 in
theorem mv_dk_110 : mv_dk (mv_by 110) (mv_m 110).1 = true := by decide +kernel
set_option maxRecDepth 100000 in
theorem mv_dk_111 : mv_dk (mv_by 111) (mv_m 111).1 = true := by decide +kernel
set_option maxRecDepth 100000 in
theorem mv_dk_112 : mv_dk (mv_by 112) (mv_m 112).1 = true := by decide +kernel
set_option maxRecDepth 100000 in
theorem mv_dk_113 : mv_dk (mv_by 113) (mv_m 113).1 = true := by decide +kernel
set_option maxRecDepth 100000 in
theorem mv_dk_114 : mv_dk (mv_by 114) (mv_m 114).1 = true := by decide +kernel
set_option maxRecDepth 100000 in
theorem mv_dk_115 : mv_dk (mv_by 115) (mv_m 115).1 = true := by decide +kernel
set_option maxRecDepth 100000 in
theorem mv_dk_116 : mv_dk (mv_by 116) (mv_m 116).1 = true := by decide +kernel
set_option maxRecDepth 100000 in
theorem mv_dk_117 : mv_dk (mv_by 117) (mv_m 117).1 = true := by decide +kernel
set_option maxRecDepth 100000 in
theorem mv_dk_118 : mv_dk (mv_by 118) (mv_m 118).1 = true := by decide +kernel
set_option maxRecDepth 100000 in
theorem mv_dk_119 : mv_dk (mv_by 119) (mv_m 119).1 = true := by decide +kernel
set_option maxRecDepth 100000 in
theorem mv_dk_120 : mv_dk (mv_by 120) (mv_m 120).1 = true := by decide +kernel
set_option maxRecDepth 100000 in
theorem mv_dk_121 : mv_dk (mv_by 121) (mv_m 121).1 = true := by decide +kernel
set_option maxRecDepth 100000 in
theorem mv_dk_122 : mv_dk (mv_by 122) (mv_m 122).1 = true := by decide +kernel
set_option maxRecDepth 100000 in
theorem mv_dk_123 : mv_dk (mv_by 123) (mv_m 123).1 = true := by decide +kernel
set_option maxRecDepth 100000 in
theorem mv_dk_124 : mv_dk (mv_by 124) (mv_m 124).1 = true := by decide +kernel
set_option maxRecDepth 100000 in
theorem mv_dk_125 : mv_dk (mv_by 125) (mv_m 125).1 = true := by decide +kernel
set_option maxRecDepth 100000 in
theorem mv_dk_126 : mv_dk (mv_by 126) (mv_m 126).1 = true := by decide +kernel
set_option maxRecDepth 100000 in
theorem mv_dk_127 : mv_dk (mv_by 127) (mv_m 127).1 = true := by decide +kernel
set_option maxRecDepth 100000 in
theorem mv_dk_128 : mv_dk (mv_by 128) (mv_m 128).1 = true := by decide +kernel
set_option maxRecDepth 100000 in
theorem mv_dk_129 : mv_dk (mv_by 129) (mv_m 129).1 = true := by decide +kernel
set_option maxRecDepth 100000 in
theorem mv_dk_130 : mv_dk (mv_by 130) (mv_m 130).1 = true := by decide +kernel
set_option maxRecDepth 100000 in
theorem mv_dk_131 : mv_dk (mv_by 131) (mv_m 131).1 = true := by decide +kernel
set_option maxRecDepth 100000 in
theorem mv_dk_132 : mv_dk (mv_by 132) (mv_m 132).1 = true := by decide +kernel
set_option maxRecDepth 100000 in
theorem mv_dk_133 : mv_dk (mv_by 133) (mv_m 133).1 = true := by decide +kernel
set_option maxRecDepth 100000 in
theorem mv_dk_134 : mv_dk (mv_by 134) (mv_m 134).1 = true := by decide +kernel
set_option maxRecDepth 100000 in
theorem mv_dk_135 : mv_dk (mv_by 135) (mv_m 135).1 = true := by decide +kernel
set_option maxRecDepth 100000 in
theorem mv_dk_136 : mv_dk (mv_by 136) (mv_m 136).1 = true := by decide +kernel
set_option maxRecDepth 100000 in
theorem mv_dk_137 : mv_dk (mv_by 137) (mv_m 137).1 = true := by decide +kernel
set_option maxRecDepth 100000 in
theorem mv_dk_138 : mv_dk (mv_by 138) (mv_m 138).1 = true := by decide +kernel
set_option maxRecDepth 100000 in
theorem mv_dk_139 : mv_dk (mv_by 139) (mv_m 139).1 = true := by decide +kernel
set_option maxRecDepth 100000 in
theorem mv_dk_140 : mv_dk (mv_by 140) (mv_m 140).1 = true := by decide +kernel
set_option maxRecDepth 100000 in
theorem mv_dk_141 : mv_dk (mv_by 141) (mv_m 141).1 = true := by decide +kernel
set_option maxRecDepth 100000 in
theorem mv_dk_142 : mv_dk (mv_by 142) (mv_m 142).1 = true := by decide +kernel
set_option maxRecDepth 100000 in
theorem mv_dk_143 : mv_dk (mv_by 143) (mv_m 143).1 = true := by decide +kernel
set_option maxRecDepth 100000 in
theorem mv_dk_144 : mv_dk (mv_by 144) (mv_m 144).1 = true := by decide +kernel
set_option maxRecDepth 100000 in
theorem mv_dk_145 : mv_dk (mv_by 145) (mv_m 145).1 = true := by decide +kernel
set_option maxRecDepth 100000 in
theorem mv_dk_146 : mv_dk (mv_by 146) (mv_m 146).1 = true := by decide +kernel
set_option maxRecDepth 100000 in
theorem mv_dk_147 : mv_dk (mv_by 147) (mv_m 147).1 = true := by decide +kernel
set_option maxRecDepth 100000 in
theorem mv_dk_148 : mv_dk (mv_by 148) (mv_m 148).1 = true := by decide +kernel
set_option maxRecDepth 100000 in
theorem mv_dk_149 : mv_dk (mv_by 149) (mv_m 149).1 = true := by decide +kernel
set_option maxRecDepth 100000 in
theorem mv_dk_150 : mv_dk (mv_by 150) (mv_m 150).1 = true := by decide +kernel
set_option maxRecDepth 100000 in
theorem mv_dk_151 : mv_dk (mv_by 151) (mv_m 151).1 = true := by decide +kernel
set_option maxRecDepth 100000 in
theorem mv_dk_152 : mv_dk (mv_by 152) (mv_m 152).1 = true := by decide +kernel
set_option maxRecDepth 100000 in
theorem mv_dk_153 : mv_dk (mv_by 153) (mv_m 153).1 = true := by decide +kernel
set_option maxRecDepth 100000 in
theorem mv_dk_154 : mv_dk (mv_by 154) (mv_m 154).1 = true := by decide +kernel
set_option maxRecDepth 100000 in
theorem mv_dk_155 : mv_dk (mv_by 155) (mv_m 155).1 = true := by decide +kernel
set_option maxRecDepth 100000 in
theorem mv_dk_156 : mv_dk (mv_by 156) (mv_m 156).1 = true := by decide +kernel
set_option maxRecDepth 100000 in
theorem mv_dk_157 : mv_dk (mv_by 157) (mv_m 157).1 = true := by decide +kernel
set_option maxRecDepth 100000 in
theorem mv_dk_158 : mv_dk (mv_by 158) (mv_m 158).1 = true := by decide +kernel
set_option maxRecDepth 100000 in
theorem mv_dk_159 : mv_dk (mv_by 159) (mv_m 159).1 = true := by decide +kernel
set_option maxRecDepth 100000 in
theorem mv_dk_160 : mv_dk (mv_by 160) (mv_m 160).1 = true := by decide +kernel
set_option maxRecDepth 100000 in
theorem mv_dk_161 : mv_dk (mv_by 161) (mv_m 161).1 = true := by decide +kernel
set_option maxRecDepth 100000 in
theorem mv_dk_162 : mv_dk (mv_by 162) (mv_m 162).1 = true := by decide +kernel
set_option maxRecDepth 100000 in
theorem mv_dk_163 : mv_dk (mv_by 163) (mv_m 163).1 = true := by decide +kernel
set_option maxRecDepth 100000 in
theorem mv_dk_164 : mv_dk (mv_by 164) (mv_m 164).1 = true := by decide +kernel
set_option maxRecDepth 100000 in
theorem mv_dk_165 : mv_dk (mv_by 165) (mv_m 165).1 = true := by decide +kernel
set_option maxRecDepth 100000 in
theorem mv_dk_166 : mv_dk (mv_by 166) (mv_m 166).1 = true := by decide +kernel
set_option maxRecDepth 100000 in
theorem mv_dk_167 : mv_dk (mv_by 167) (mv_m 167).1 = true := by decide +kernel
set_option maxRecDepth 100000 in
theorem mv_dk_168 : mv_dk (mv_by 168) (mv_m 168).1 = true := by decide +kernel
set_option maxRecDepth 100000 in
theorem mv_dk_169 : mv_dk (mv_by 169) (mv_m 169).1 = true := by decide +kernel
set_option maxRecDepth 100000 in
theorem mv_dk_170 : mv_dk (mv_by 170) (mv_m 170).1 = true := by decide +kernel
set_option maxRecDepth 100000 in
theorem mv_dk_171 : mv_dk (mv_by 171) (mv_m 171).1 = true := by decide +kernel
set_option maxRecDepth 100000 in
theorem mv_dk_172 : mv_dk (mv_by 172) (mv_m 172).1 = true := by decide +kernel
set_option maxRecDepth 100000 in
theorem mv_dk_173 : mv_dk (mv_by 173) (mv_m 173).1 = true := by decide +kernel
set_option maxRecDepth 100000 in
theorem mv_dk_174 : mv_dk (mv_by 174) (mv_m 174).1 = true := by decide +kernel
set_option maxRecDepth 100000 in
theorem mv_dk_175 : mv_dk (mv_by 175) (mv_m 175).1 = true := by decide +kernel
set_option maxRecDepth 100000 in
theorem mv_dk_176 : mv_dk (mv_by 176) (mv_m 176).1 = true := by decide +kernel
set_option maxRecDepth 100000 in
theorem mv_dk_177 : mv_dk (mv_by 177) (mv_m 177).1 = true := by decide +kernel
set_option maxRecDepth 100000 in
theorem mv_dk_178 : mv_dk (mv_by 178) (mv_m 178).1 = true := by decide +kernel
set_option maxRecDepth 100000 in
theorem mv_dk_179 : mv_dk (mv_by 179) (mv_m 179).1 = true := by decide +kernel
set_option maxRecDepth 100000 in
theorem mv_dk_180 : mv_dk (mv_by 180) (mv_m 180).1 = true := by decide +kernel
set_option maxRecDepth 100000 in
theorem mv_dk_181 : mv_dk (mv_by 181) (mv_m 181).1 = true := by decide +kernel
set_option maxRecDepth 100000 in
theorem mv_dk_182 : mv_dk (mv_by 182) (mv_m 182).1 = true := by decide +kernel
set_option maxRecDepth 100000 in
theorem mv_dk_183 : mv_dk (mv_by 183) (mv_m 183).1 = true := by decide +kernel
set_option maxRecDepth 100000 in
theorem mv_dk_184 : mv_dk (mv_by 184) (mv_m 184).1 = true := by decide +kernel
set_option maxRecDepth 100000 in
theorem mv_dk_185 : mv_dk (mv_by 185) (mv_m 185).1 = true := by decide +kernel
set_option maxRecDepth 100000 in
theorem mv_dk_186 : mv_dk (mv_by 186) (mv_m 186).1 = true := by decide +kernel
set_option maxRecDepth 100000 in
theorem mv_dk_187 : mv_dk (mv_by 187) (mv_m 187).1 = true := by decide +kernel
set_option maxRecDepth 100000 in
theorem mv_dk_188 : mv_dk (mv_by 188) (mv_m 188).1 = true := by decide +kernel
set_option maxRecDepth 100000 in
theorem mv_dk_189 : mv_dk (mv_by 189) (mv_m 189).1 = true := by decide +kernel
set_option maxRecDepth 100000 in
theorem mv_dk_190 : mv_dk (mv_by 190) (mv_m 190).1 = true := by decide +kernel
set_option maxRecDepth 100000 in
theorem mv_dk_191 : mv_dk (mv_by 191) (mv_m 191).1 = true := by decide +kernel
set_option maxRecDepth 100000 in
theorem mv_dk_192 : mv_dk (mv_by 192) (mv_m 192).1 = true := by decide +kernel
set_option maxRecDepth 100000 in
theorem mv_dk_193 : mv_dk (mv_by 193) (mv_m 193).1 = true := by decide +kernel
set_option maxRecDepth 100000 in
theorem mv_dk_194 : mv_dk (mv_by 194) (mv_m 194).1 = true := by decide +kernel
set_option maxRecDepth 100000 in
theorem mv_dk_195 : mv_dk (mv_by 195) (mv_m 195).1 = true := by decide +kernel
set_option maxRecDepth 100000 in
theorem mv_dk_196 : mv_dk (mv_by 196) (mv_m 196).1 = true := by decide +kernel
set_option maxRecDepth 100000 in
theorem mv_dk_197 : mv_dk (mv_by 197) (mv_m 197).1 = true := by decide +kernel
set_option maxRecDepth 100000 in
theorem mv_dk_198 : mv_dk (mv_by 198) (mv_m 198).1 = true := by decide +kernel
set_option maxRecDepth 100000 in
theorem mv_dk_199 : mv_dk (mv_by 199) (mv_m 199).1 = true := by decide +kernel
set_option maxRecDepth 100000 in
theorem mv_dk_200 : mv_dk (mv_by 200) (mv_m 200).1 = true := by decide +kernel
set_option maxRecDepth 100000 in
theorem mv_dk_201 : mv_dk (mv_by 201) (mv_m 201).1 = true := by decide +kernel
set_option maxRecDepth 100000 in
theorem mv_dk_202 : mv_dk (mv_by 202) (mv_m 202).1 = true := by decide +kernel
set_option maxRecDepth 100000 in
theorem mv_dk_203 : mv_dk (mv_by 203) (mv_m 203).1 = true := by decide +kernel
set_option maxRecDepth 100000 in
theorem mv_dk_204 : mv_dk (mv_by 204) (mv_m 204).1 = true := by decide +kernel
set_option maxRecDepth 100000 in
theorem mv_dkL_0 : mv_dk code kc_Law_law_0 = true := by decide +kernel
set_option maxRecDepth 100000 in
theorem mv_dkL_1 : mv_dk code kc_Law_law_1 = true := by decide +kernel
set_option maxRecDepth 100000 in
theorem mv_dkL_2 : mv_dk code kc_Law_law_2 = true := by decide +kernel
set_option maxRecDepth 100000 in
theorem mv_dkL_3 : mv_dk code kc_Law_law_3 = true := by decide +kernel
set_option maxRecDepth 100000 in
theorem mv_dkL_4 : mv_dk code kc_Law_law_4 = true := by decide +kernel
set_option maxRecDepth 100000 in
theorem mv_dkL_5 : mv_dk code kc_Law_law_5 = true := by decide +kernel
set_option maxRecDepth 100000 in
theorem mv_dkL_6 : mv_dk code kc_Law_law_6 = true := by decide +kernel
set_option maxRecDepth 100000 in
theorem mv_dkL_7 : mv_dk code kc_Law_law_7 = true := by decide +kernel
set_option maxRecDepth 100000 in
theorem mv_dkL_8 : mv_dk code kc_Law_law_8 = true := by decide +kernel
set_option maxRecDepth 100000 in
theorem mv_dkL_9 : mv_dk code kc_Law_law_9 = true := by decide +kernel
set_option maxRecDepth 100000 in
theorem mv_dkL_10 : mv_dk code kc_Law_law_10 = true := by decide +kernel
set_option maxRecDepth 100000 in
theorem mv_dkL_11 : mv_dk code kc_Law_law_11 = true := by decide +kernel
set_option maxRecDepth 100000 in
theorem mv_dkL_12 : mv_dk code kc_Law_law_12 = true := by decide +kernel
set_option maxRecDepth 100000 in
theorem mv_dkL_13 : mv_dk code kc_Law_law_13 = true := by decide +kernel
set_option maxRecDepth 100000 in
theorem mv_dkL_14 : mv_dk code kc_Law_law_14 = true := by decide +kernel
set_option maxRecDepth 100000 in
theorem mv_dkL_15 : mv_dk code kc_Law_law_15 = true := by decide +kernel
set_option maxRecDepth 100000 in
theorem mv_dkL_16 : mv_dk code kc_Law_law_16 = true := by decide +kernel
set_option maxRecDepth 100000 in
theorem mv_dkL_17 : mv_dk code kc_Law_law_17 = true := by decide +kernel
set_option maxRecDepth 100000 in
theorem mv_dkL_18 : mv_dk code kc_Law_law_18 = true := by decide +kernel
set_option maxRecDepth 100000 in
theorem mv_dkL_19 : mv_dk code kc_Law_law_19 = true := by decide +kernel
set_option maxRecDepth 100000 in
theorem mv_dkL_20 : mv_dk code kc_Law_law_20 = true := by decide +kernel
set_option maxRecDepth 100000 in
theorem mv_dkL_21 : mv_dk code kc_Law_law_21 = true := by decide +kernel
set_option maxRecDepth 100000 in
theorem mv_dkL_22 : mv_dk code kc_Law_law_22 = true := by decide +kernel
set_option maxRecDepth 100000 in
theorem mv_dkL_23 : mv_dk code kc_Law_law_23 = true := by decide +kernel
set_option maxRecDepth 100000 in
theorem mv_dkL_24 : mv_dk code kc_Law_law_24 = true := by decide +kernel
set_option maxRecDepth 100000 in
theorem mv_dkL_25 : mv_dk code kc_Law_law_25 = true := by decide +kernel
set_option maxRecDepth 100000 in
theorem mv_dkL_26 : mv_dk code kc_Law_law_26 = true := by decide +kernel
set_option maxRecDepth 100000 in
theorem mv_dkL_27 : mv_dk code kc_Law_law_27 = true := by decide +kernel
set_option maxRecDepth 100000 in
theorem mv_dkL_28 : mv_dk code kc_Law_law_28 = true := by decide +kernel
set_option maxRecDepth 100000 in
theorem mv_dkL_29 : mv_dk code kc_Law_law_29 = true := by decide +kernel
set_option maxRecDepth 100000 in
theorem mv_dkL_30 : mv_dk code kc_Law_law_30 = true := by decide +kernel
theorem mv_dk_app (cc : ByteArray) (a b : mv_K) (ha : mv_dk cc a = true) (hb : mv_dk cc b = true) : mv_dk cc (a ++ b) = true := by simp only [mv_dk, List.all_append, Bool.and_eq_true] at *; exact ⟨ha, hb⟩
theorem mv_dk_205 : mv_dk (mv_by 205) (mv_m 205).1 = true := mv_dk_app _ _ _ mv_dkL_0 (mv_dk_app _ _ _ mv_dkL_1 (mv_dk_app _ _ _ mv_dkL_2 (mv_dk_app _ _ _ mv_dkL_3 (mv_dk_app _ _ _ mv_dkL_4 (mv_dk_app _ _ _ mv_dkL_5 (mv_dk_app _ _ _ mv_dkL_6 (mv_dk_app _ _ _ mv_dkL_7 (mv_dk_app _ _ _ mv_dkL_8 (mv_dk_app _ _ _ mv_dkL_9 (mv_dk_app _ _ _ mv_dkL_10 (mv_dk_app _ _ _ mv_dkL_11 (mv_dk_app _ _ _ mv_dkL_12 (mv_dk_app _ _ _ mv_dkL_13 (mv_dk_app _ _ _ mv_dkL_14 (mv_dk_app _ _ _ mv_dkL_15 (mv_dk_app _ _ _ mv_dkL_16 (mv_dk_app _ _ _ mv_dkL_17 (mv_dk_app _ _ _ mv_dkL_18 (mv_dk_app _ _ _ mv_dkL_19 (mv_dk_app _ _ _ mv_dkL_20 (mv_dk_app _ _ _ mv_dkL_21 (mv_dk_app _ _ _ mv_dkL_22 (mv_dk_app _ _ _ mv_dkL_23 (mv_dk_app _ _ _ mv_dkL_24 (mv_dk_app _ _ _ mv_dkL_25 (mv_dk_app _ _ _ mv_dkL_26 (mv_dk_app _ _ _ mv_dkL_27 (mv_dk_app _ _ _ mv_dkL_28 (mv_dk_app _ _ _ mv_dkL_29 mv_dkL_30)))))))))))))))))))))))))))))
end
section
set_option maxRecDepth 100000 in
theorem mv_pk0 : (List.range 206).all (fun y => mv_pz y (mv_m y).1 (mv_pp.getD y [])) = true := by decide +kernel
set_option maxRecDepth 100000 in
theorem mv_mk_0 : mv_mk 0 (mv_mp.getD 0 []) = true := by decide +kernel
set_option maxRecDepth 100000 in
theorem mv_mk_1 : mv_mk 1 (mv_mp.getD 1 []) = true := by decide +kernel
set_option maxRecDepth 100000 in
theorem mv_mk_2 : mv_mk 2 (mv_mp.getD 2 []) = true := by decide +kernel
set_option maxRecDepth 100000 in
theorem mv_mk_3 : mv_mk 3 (mv_mp.getD 3 []) = true := by decide +kernel
set_option maxRecDepth 100000 in
theorem mv_mk_4 : mv_mk 4 (mv_mp.getD 4 []) = true := by decide +kernel
set_option maxRecDepth 100000 in
theorem mv_mk_5 : mv_mk 5 (mv_mp.getD 5 []) = true := by decide +kernel
set_option maxRecDepth 100000 in
theorem mv_mk_6 : mv_mk 6 (mv_mp.getD 6 []) = true := by decide +kernel
set_option maxRecDepth 100000 in
theorem mv_mk_7 : mv_mk 7 (mv_mp.getD 7 []) = true := by decide +kernel
set_option maxRecDepth 100000 in
theorem mv_mk_8 : mv_mk 8 (mv_mp.getD 8 []) = true := by decide +kernel
set_option maxRecDepth 100000 in
theorem mv_mk_9 : mv_mk 9 (mv_mp.getD 9 []) = true := by decide +kernel
set_option maxRecDepth 100000 in
theorem mv_mk_10 : mv_mk 10 (mv_mp.getD 10 []) = true := by decide +kernel
set_option maxRecDepth 100000 in
theorem mv_mk_11 : mv_mk 11 (mv_mp.getD 11 []) = true := by decide +kernel
set_option maxRecDepth 100000 in
theorem mv_mk_12 : mv_mk 12 (mv_mp.getD 12 []) = true := by decide +kernel
set_option maxRecDepth 100000 in
theorem mv_mk_13 : mv_mk 13 (mv_mp.getD 13 []) = true := by decide +kernel
set_option maxRecDepth 100000 in
theorem mv_mk_14 : mv_mk 14 (mv_mp.getD 14 []) = true := by decide +kernel
set_option maxRecDepth 100000 in
theorem mv_mk_15 : mv_mk 15 (mv_mp.getD 15 []) = true := by decide +kernel
set_option maxRecDepth 100000 in
theorem mv_mk_16 : mv_mk 16 (mv_mp.getD 16 []) = true := by decide +kernel
set_option maxRecDepth 100000 in
theorem mv_mk_17 : mv_mk 17 (mv_mp.getD 17 []) = true := by decide +kernel
set_option maxRecDepth 100000 in
theorem mv_mk_18 : mv_mk 18 (mv_mp.getD 18 []) = true := by decide +kernel
set_option maxRecDepth 100000 in
theorem mv_mk_19 : mv_mk 19 (mv_mp.getD 19 []) = true := by decide +kernel
set_option maxRecDepth 100000 in
theorem mv_mk_20 : mv_mk 20 (mv_mp.getD 20 []) = true := by decide +kernel
set_option maxRecDepth 100000 in
theorem mv_mk_21 : mv_mk 21 (mv_mp.getD 21 []) = true := by decide +kernel
set_option maxRecDepth 100000 in
theorem mv_mk_22 : mv_mk 22 (mv_mp.getD 22 []) = true := by decide +kernel
set_option maxRecDepth 100000 in
theorem mv_mk_23 : mv_mk 23 (mv_mp.getD 23 []) = true := by decide +kernel
set_option maxRecDepth 100000 in
theorem mv_mk_24 : mv_mk 24 (mv_mp.getD 24 []) = true := by decide +kernel
set_option maxRecDepth 100000 in
theorem mv_mk_25 : mv_mk 25 (mv_mp.getD 25 []) = true := by decide +kernel
set_option maxRecDepth 100000 in
theorem mv_mk_26 : mv_mk 26 (mv_mp.getD 26 []) = true := by decide +kernel
set_option maxRecDepth 100000 in
theorem mv_mk_27 : mv_mk 27 (mv_mp.getD 27 []) = true := by decide +kernel
set_option maxRecDepth 100000 in
theorem mv_mk_28 : mv_mk 28 (mv_mp.getD 28 []) = true := by decide +kernel
set_option maxRecDepth 100000 in
theorem mv_mk_29 : mv_mk 29 (mv_mp.getD 29 []) = true := by decide +kernel
set_option maxRecDepth 100000 in
theorem mv_mk_30 : mv_mk 30 (mv_mp.getD 30 []) = true := by decide +kernel
set_option maxRecDepth 100000 in
theorem mv_mk_31 : mv_mk 31 (mv_mp.getD 31 []) = true := by decide +kernel
set_option maxRecDepth 100000 in
theorem mv_mk_32 : mv_mk 32 (mv_mp.getD 32 []) = true := by decide +kernel
set_option maxRecDepth 100000 in
theorem mv_mk_33 : mv_mk 33 (mv_mp.getD 33 []) = true := by decide +kernel
set_option maxRecDepth 100000 in
theorem mv_mk_34 : mv_mk 34 (mv_mp.getD 34 []) = true := by decide +kernel
set_option maxRecDepth 100000 in
theorem mv_mk_35 : mv_mk 35 (mv_mp.getD 35 []) = true := by decide +kernel
set_option maxRecDepth 100000 in
theorem mv_mk_36 : mv_mk 36 (mv_mp.getD 36 []) = true := by decide +kernel
set_option maxRecDepth 100000 in
theorem mv_mk_37 : mv_mk 37 (mv_mp.getD 37 []) = true := by decide +kernel
set_option maxRecDepth 100000 in
theorem mv_mk_38 : mv_mk 38 (mv_mp.getD 38 []) = true := by decide +kernel
set_option maxRecDepth 100000 in
theorem mv_mk_39 : mv_mk 39 (mv_mp.getD 39 []) = true := by decide +kernel
set_option maxRecDepth 100000 in
theorem mv_mk_40 : mv_mk 40 (mv_mp.getD 40 []) = true := by decide +kernel
set_option maxRecDepth 100000 in
theorem mv_mk_41 : mv_mk 41 (mv_mp.getD 41 []) = true := by decide +kernel
set_option maxRecDepth 100000 in
theorem mv_mk_42 : mv_mk 42 (mv_mp.getD 42 []) = true := by decide +kernel
set_option maxRecDepth 100000 in
theorem mv_mk_43 : mv_mk 43 (mv_mp.getD 43 []) = true := by decide +kernel
set_option maxRecDepth 100000 in
theorem mv_mk_44 : mv_mk 44 (mv_mp.getD 44 []) = true := by decide +kernel
set_option maxRecDepth 100000 in
theorem mv_mk_45 : mv_mk 45 (mv_mp.getD 45 []) = true := by decide +kernel
set_option maxRecDepth 100000 in
theorem mv_mk_46 : mv_mk 46 (mv_mp.getD 46 []) = true := by decide +kernel
set_option maxRecDepth 100000 in
theorem mv_mk_47 : mv_mk 47 (mv_mp.getD 47 []) = true := by decide +kernel
set_option maxRecDepth 100000 in
theorem mv_mk_48 : mv_mk 48 (mv_mp.getD 48 []) = true := by decide +kernel
set_option maxRecDepth 100000 in
theorem mv_mk_49 : mv_mk 49 (mv_mp.getD 49 []) = true := by decide +kernel
set_option maxRecDepth 100000 in
theorem mv_mk_50 : mv_mk 50 (mv_mp.getD 50 []) = true := by decide +kernel
set_option maxRecDepth 100000 in
theorem mv_mk_51 : mv_mk 51 (mv_mp.getD 51 []) = true := by decide +kernel
set_option maxRecDepth 100000 in
theorem mv_mk_52 : mv_mk 52 (mv_mp.getD 52 []) = true := by decide +kernel
set_option maxRecDepth 100000 in
theorem mv_mk_53 : mv_mk 53 (mv_mp.getD 53 []) = true := by decide +kernel
set_option maxRecDepth 100000 in
theorem mv_mk_54 : mv_mk 54 (mv_mp.getD 54 []) = true := by decide +kernel
set_option maxRecDepth 100000 in
theorem mv_mk_55 : mv_mk 55 (mv_mp.getD 55 []) = true := by decide +kernel
set_option maxRecDepth 100000 in
theorem mv_mk_56 : mv_mk 56 (mv_mp.getD 56 []) = true := by decide +kernel
set_option maxRecDepth 100000 in
theorem mv_mk_57 : mv_mk 57 (mv_mp.getD 57 []) = true := by decide +kernel
set_option maxRecDepth 100000 in
theorem mv_mk_58 : mv_mk 58 (mv_mp.getD 58 []) = true := by decide +kernel
set_option maxRecDepth 100000 in
theorem mv_mk_59 : mv_mk 59 (mv_mp.getD 59 []) = true := by decide +kernel
set_option maxRecDepth 100000 in
theorem mv_mk_60 : mv_mk 60 (mv_mp.getD 60 []) = true := by decide +kernel
set_option maxRecDepth 100000 in
theorem mv_mk_61 : mv_mk 61 (mv_mp.getD 61 []) = true := by decide +kernel
set_option maxRecDepth 100000 in
theorem mv_mk_62 : mv_mk 62 (mv_mp.getD 62 []) = true := by decide +kernel
set_option maxRecDepth 100000 in
theorem mv_mk_63 : mv_mk 63 (mv_mp.getD 63 []) = true := by decide +kernel
set_option maxRecDepth 100000 in
theorem mv_mk_64 : mv_mk 64 (mv_mp.getD 64 []) = true := by decide +kernel
set_option maxRecDepth 100000 in
theorem mv_mk_65 : mv_mk 65 (mv_mp.getD 65 []) = true := by decide +kernel
set_option maxRecDepth 100000 in
theorem mv_mk_66 : mv_mk 66 (mv_mp.getD 66 []) = true := by decide +kernel
set_option maxRecDepth 100000 in
theorem mv_mk_67 : mv_mk 67 (mv_mp.getD 67 []) = true := by decide +kernel
set_option maxRecDepth 100000 in
theorem mv_mk_68 : mv_mk 68 (mv_mp.getD 68 []) = true := by decide +kernel
set_option maxRecDepth 100000 in
theorem mv_mk_69 : mv_mk 69 (mv_mp.getD 69 []) = true := by decide +kernel
set_option maxRecDepth 100000 in
theorem mv_mk_70 : mv_mk 70 (mv_mp.getD 70 []) = true := by decide +kernel
set_option maxRecDepth 100000 in
theorem mv_mk_71 : mv_mk 71 (mv_mp.getD 71 []) = true := by decide +kernel
set_option maxRecDepth 100000 in
theorem mv_mk_72 : mv_mk 72 (mv_mp.getD 72 []) = true := by decide +kernel
set_option maxRecDepth 100000 in
theorem mv_mk_73 : mv_mk 73 (mv_mp.getD 73 []) = true := by decide +kernel
set_option maxRecDepth 100000 in
theorem mv_mk_74 : mv_mk 74 (mv_mp.getD 74 []) = true := by decide +kernel
set_option maxRecDepth 100000 in
theorem mv_mk_75 : mv_mk 75 (mv_mp.getD 75 []) = true := by decide +kernel
set_option maxRecDepth 100000 in
theorem mv_mk_76 : mv_mk 76 (mv_mp.getD 76 []) = true := by decide +kernel
set_option maxRecDepth 100000 in
theorem mv_mk_77 : mv_mk 77 (mv_mp.getD 77 []) = true := by decide +kernel
set_option maxRecDepth 100000 in
theorem mv_mk_78 : mv_mk 78 (mv_mp.getD 78 []) = true := by decide +kernel
set_option maxRecDepth 100000 in
theorem mv_mk_79 : mv_mk 79 (mv_mp.getD 79 []) = true := by decide +kernel
set_option maxRecDepth 100000 in
theorem mv_mk_80 : mv_mk 80 (mv_mp.getD 80 []) = true := by decide +kernel
set_option maxRecDepth 100000 in
theorem mv_mk_81 : mv_mk 81 (mv_mp.getD 81 []) = true := by decide +kernel
set_option maxRecDepth 100000 in
theorem mv_mk_82 : mv_mk 82 (mv_mp.getD 82 []) = true := by decide +kernel
set_option maxRecDepth 100000 in
theorem mv_mk_83 : mv_mk 83 (mv_mp.getD 83 []) = true := by decide +kernel
set_option maxRecDepth 100000 in
theorem mv_mk_84 : mv_mk 84 (mv_mp.getD 84 []) = true := by decide +kernel
set_option maxRecDepth 100000 in
theorem mv_mk_85 : mv_mk 85 (mv_mp.getD 85 []) = true := by decide +kernel
set_option maxRecDepth 100000 in
theorem mv_mk_86 : mv_mk 86 (mv_mp.getD 86 []) = true := by decide +kernel
set_option maxRecDepth 100000 in
theorem mv_mk_87 : mv_mk 87 (mv_mp.getD 87 []) = true := by decide +kernel
set_option maxRecDepth 100000 in
theorem mv_mk_88 : mv_mk 88 (mv_mp.getD 88 []) = true := by decide +kernel
set_option maxRecDepth 100000 in
theorem mv_mk_89 : mv_mk 89 (mv_mp.getD 89 []) = true := by decide +kernel
set_option maxRecDepth 100000 in
theorem mv_mk_90 : mv_mk 90 (mv_mp.getD 90 []) = true := by decide +kernel
set_option maxRecDepth 100000 in
theorem mv_mk_91 : mv_mk 91 (mv_mp.getD 91 []) = true := by decide +kernel
set_option maxRecDepth 100000 in
theorem mv_mk_92 : mv_mk 92 (mv_mp.getD 92 []) = true := by decide +kernel
set_option maxRecDepth 100000 in
theorem mv_mk_93 : mv_mk 93 (mv_mp.getD 93 []) = true := by decide +kernel
set_option maxRecDepth 100000 in
theorem mv_mk_94 : mv_mk 94 (mv_mp.getD 94 []) = true := by decide +kernel
set_option maxRecDepth 100000 in
theorem mv_mk_95 : mv_mk 95 (mv_mp.getD 95 []) = true := by decide +kernel
set_option maxRecDepth 100000 in
theorem mv_mk_96 : mv_mk 96 (mv_mp.getD 96 []) = true := by decide +kernel
set_option maxRecDepth 100000 in
theorem mv_mk_97 : mv_mk 97 (mv_mp.getD 97 []) = true := by decide +kernel
set_option maxRecDepth 100000 in
theorem mv_mk_98 : mv_mk 98 (mv_mp.getD 98 []) = true := by decide +kernel
set_option maxRecDepth 100000 in
theorem mv_mk_99 : mv_mk 99 (mv_mp.getD 99 []) = true := by decide +kernel
set_option maxRecDepth 100000 in
theorem mv_mk_100 : mv_mk 100 (mv_mp.getD 100 []) = true := by decide +kernel
set_option maxRecDepth 100000 in
theorem mv_mk_101 : mv_mk 101 (mv_mp.getD 101 []) = true := by decide +kernel
set_option maxRecDepth 100000 in
theorem mv_mk_102 : mv_mk 102 (mv_mp.getD 102 []) = true := by decide +kernel
set_option maxRecDepth 100000 in
theorem mv_mk_103 : mv_mk 103 (mv_mp.getD 103 []) = true := by decide +kernel
set_option maxRecDepth 100000 in
theorem mv_mk_104 : mv_mk 104 (mv_mp.getD 104 []) = true := by decide +kernel
set_option maxRecDepth 100000 in
theorem mv_mk_105 : mv_mk 105 (mv_mp.getD 105 []) = true := by decide +kernel
set_option maxRecDepth 100000 in
theorem mv_mk_106 : mv_mk 106 (mv_mp.getD 106 []) = true := by decide +kernel
set_option maxRecDepth 100000 in
theorem mv_mk_107 : mv_mk 107 (mv_mp.getD 107 []) = true := by decide +kernel
set_option maxRecDepth 100000 in
theorem mv_mk_108 : mv_mk 108 (mv_mp.getD 108 []) = true := by decide +kernel
set_option maxRecDepth 100000 in
theorem mv_mk_109 : mv_mk 109 (mv_mp.getD 109 []) = true := by decide +kernel
set_option maxRecDepth 100000 in
theorem mv_mk_110 : mv_mk 110 (mv_mp.getD 110 []) = true := by decide +kernel
set_option maxRecDepth 100000 in
theorem mv_mk_111 : mv_mk 111 (mv_mp.getD 111 []) = true := by decide +kernel
set_option maxRecDepth 100000 in
theorem mv_mk_112 : mv_mk 112 (mv_mp.getD 112 []) = true := by decide +kernel
set_option maxRecDepth 100000 in
theorem mv_mk_113 : mv_mk 113 (mv_mp.getD 113 []) = true := by decide +kernel
set_option maxRecDepth 100000 in
theorem mv_mk_114 : mv_mk 114 (mv_mp.getD 114 []) = true := by decide +kernel
set_option maxRecDepth 100000 in
theorem mv_mk_115 : mv_mk 115 (mv_mp.getD 115 []) = true := by decide +kernel
set_option maxRecDepth 100000 in
theorem mv_mk_116 : mv_mk 116 (mv_mp.getD 116 []) = true := by decide +kernel
set_option maxRecDepth 100000 in
theorem mv_mk_117 : mv_mk 117 (mv_mp.getD 117 []) = true := by decide +kernel
set_option maxRecDepth 100000 in
theorem mv_mk_118 : mv_mk 118 (mv_mp.getD 118 []) = true := by decide +kernel
set_option maxRecDepth 100000 in
theorem mv_mk_119 : mv_mk 119 (mv_mp.getD 119 []) = true := by decide +kernel
set_option maxRecDepth 100000 in
theorem mv_mk_120 : mv_mk 120 (mv_mp.getD 120 []) = true := by decide +kernel
set_option maxRecDepth 100000 in
theorem mv_mk_121 : mv_mk 121 (mv_mp.getD 121 []) = true := by decide +kernel
set_option maxRecDepth 100000 in
theorem mv_mk_122 : mv_mk 122 (mv_mp.getD 122 []) = true := by decide +kernel
set_option maxRecDepth 100000 in
theorem mv_mk_123 : mv_mk 123 (mv_mp.getD 123 []) = true := by decide +kernel
set_option maxRecDepth 100000 in
theorem mv_mk_124 : mv_mk 124 (mv_mp.getD 124 []) = true := by decide +kernel
set_option maxRecDepth 100000 in
theorem mv_mk_125 : mv_mk 125 (mv_mp.getD 125 []) = true := by decide +kernel
set_option maxRecDepth 100000 in
theorem mv_mk_126 : mv_mk 126 (mv_mp.getD 126 []) = true := by decide +kernel
set_option maxRecDepth 100000 in
theorem mv_mk_127 : mv_mk 127 (mv_mp.getD 127 []) = true := by decide +kernel
set_option maxRecDepth 100000 in
theorem mv_mk_128 : mv_mk 128 (mv_mp.getD 128 []) = true := by decide +kernel
set_option maxRecDepth 100000 in
theorem mv_mk_129 : mv_mk 129 (mv_mp.getD 129 []) = true := by decide +kernel
set_option maxRecDepth 100000 in
theorem mv_mk_130 : mv_mk 130 (mv_mp.getD 130 []) = true := by decide +kernel
set_option maxRecDepth 100000 in
theorem mv_mk_131 : mv_mk 131 (mv_mp.getD 131 []) = true := by decide +kernel
set_option maxRecDepth 100000 in
theorem mv_mk_132 : mv_mk 132 (mv_mp.getD 132 []) = true := by decide +kernel
set_option maxRecDepth 100000 in
theorem mv_mk_133 : mv_mk 133 (mv_mp.getD 133 []) = true := by decide +kernel
set_option maxRecDepth 100000 in
theorem mv_mk_134 : mv_mk 134 (mv_mp.getD 134 []) = true := by decide +kernel
set_option maxRecDepth 100000 in
theorem mv_mk_135 : mv_mk 135 (mv_mp.getD 135 []) = true := by decide +kernel
set_option maxRecDepth 100000 in
theorem mv_mk_136 : mv_mk 136 (mv_mp.getD 136 []) = true := by decide +kernel
set_option maxRecDepth 100000 in
theorem mv_mk_137 : mv_mk 137 (mv_mp.getD 137 []) = true := by decide +kernel
set_option maxRecDepth 100000 in
theorem mv_mk_138 : mv_mk 138 (mv_mp.getD 138 []) = true := by decide +kernel
set_option maxRecDepth 100000 in
theorem mv_mk_139 : mv_mk 139 (mv_mp.getD 139 []) = true := by decide +kernel
set_option maxRecDepth 100000 in
theorem mv_mk_140 : mv_mk 140 (mv_mp.getD 140 []) = true := by decide +kernel
set_option maxRecDepth 100000 in
theorem mv_mk_141 : mv_mk 141 (mv_mp.getD 141 []) = true := by decide +kernel
set_option maxRecDepth 100000 in
theorem mv_mk_142 : mv_mk 142 (mv_mp.getD 142 []) = true := by decide +kernel
set_option maxRecDepth 100000 in
theorem mv_mk_143 : mv_mk 143 (mv_mp.getD 143 []) = true := by decide +kernel
set_option maxRecDepth 100000 in
theorem mv_mk_144 : mv_mk 144 (mv_mp.getD 144 []) = true := by decide +kernel
set_option maxRecDepth 100000 in
theorem mv_mk_145 : mv_mk 145 (mv_mp.getD 145 []) = true := by decide +kernel
set_option maxRecDepth 100000 in
theorem mv_mk_146 : mv_mk 146 (mv_mp.getD 146 []) = true := by decide +kernel
set_option maxRecDepth 100000 in
theorem mv_mk_147 : mv_mk 147 (mv_mp.getD 147 []) = true := by decide +kernel
set_option maxRecDepth 100000 in
theorem mv_mk_148 : mv_mk 148 (mv_mp.getD 148 []) = true := by decide +kernel
set_option maxRecDepth 100000 in
theorem mv_mk_149 : mv_mk 149 (mv_mp.getD 149 []) = true := by decide +kernel
set_option maxRecDepth 100000 in
theorem mv_mk_150 : mv_mk 150 (mv_mp.getD 150 []) = true := by decide +kernel
set_option maxRecDepth 100000 in
theorem mv_mk_151 : mv_mk 151 (mv_mp.getD 151 []) = true := by decide +kernel
set_option maxRecDepth 100000 in
theorem mv_mk_152 : mv_mk 152 (mv_mp.getD 152 []) = true := by decide +kernel
set_option maxRecDepth 100000 in
theorem mv_mk_153 : mv_mk 153 (mv_mp.getD 153 []) = true := by decide +kernel
set_option maxRecDepth 100000 in
theorem mv_mk_154 : mv_mk 154 (mv_mp.getD 154 []) = true := by decide +kernel
set_option maxRecDepth 100000 in
theorem mv_mk_155 : mv_mk 155 (mv_mp.getD 155 []) = true := by decide +kernel
set_option maxRecDepth 100000 in
theorem mv_mk_156 : mv_mk 156 (mv_mp.getD 156 []) = true := by decide +kernel
set_option maxRecDepth 100000 in
theorem mv_mk_157 : mv_mk 157 (mv_mp.getD 157 []) = true := by decide +kernel
set_option maxRecDepth 100000 in
theorem mv_mk_158 : mv_mk 158 (mv_mp.getD 158 []) = true := by decide +kernel
set_option maxRecDepth 100000 in
theorem mv_mk_159 : mv_mk 159 (mv_mp.getD 159 []) = true := by decide +kernel
set_option maxRecDepth 100000 in
theorem mv_mk_160 : mv_mk 160 (mv_mp.getD 160 []) = true := by decide +kernel
set_option maxRecDepth 100000 in
theorem mv_mk_161 : mv_mk 161 (mv_mp.getD 161 []) = true := by decide +kernel
set_option maxRecDepth 100000 in
theorem mv_mk_162 : mv_mk 162 (mv_mp.getD 162 []) = true := by decide +kernel
set_option maxRecDepth 100000 in
theorem mv_mk_163 : mv_mk 163 (mv_mp.getD 163 []) = true := by decide +kernel
set_option maxRecDepth 100000 in
theorem mv_mk_164 : mv_mk 164 (mv_mp.getD 164 []) = true := by decide +kernel
set_option maxRecDepth 100000 in
theorem mv_mk_165 : mv_mk 165 (mv_mp.getD 165 []) = true := by decide +kernel
set_option maxRecDepth 100000 in
theorem mv_mk_166 : mv_mk 166 (mv_mp.getD 166 []) = true := by decide +kernel
set_option maxRecDepth 100000 in
theorem mv_mk_167 : mv_mk 167 (mv_mp.getD 167 []) = true := by decide +kernel
set_option maxRecDepth 100000 in
theorem mv_mk_168 : mv_mk 168 (mv_mp.getD 168 []) = true := by decide +kernel
set_option maxRecDepth 100000 in
theorem mv_mk_169 : mv_mk 169 (mv_mp.getD 169 []) = true := by decide +kernel
set_option maxRecDepth 100000 in
theorem mv_mk_170 : mv_mk 170 (mv_mp.getD 170 []) = true := by decide +kernel
set_option maxRecDepth 100000 in
theorem mv_mk_171 : mv_mk 171 (mv_mp.getD 171 []) = true := by decide +kernel
set_option maxRecDepth 100000 in
theorem mv_mk_172 : mv_mk 172 (mv_mp.getD 172 []) = true := by decide +kernel
set_option maxRecDepth 100000 in
theorem mv_mk_173 : mv_mk 173 (mv_mp.getD 173 []) = true := by decide +kernel
set_option maxRecDepth 100000 in
theorem mv_mk_174 : mv_mk 174 (mv_mp.getD 174 []) = true := by decide +kernel
set_option maxRecDepth 100000 in
theorem mv_mk_175 : mv_mk 175 (mv_mp.getD 175 []) = true := by decide +kernel
set_option maxRecDepth 100000 in
theorem mv_mk_176 : mv_mk 176 (mv_mp.getD 176 []) = true := by decide +kernel
set_option maxRecDepth 100000 in
theorem mv_mk_177 : mv_mk 177 (mv_mp.getD 177 []) = true := by decide +kernel
set_option maxRecDepth 100000 in
theorem mv_mk_178 : mv_mk 178 (mv_mp.getD 178 []) = true := by decide +kernel
set_option maxRecDepth 100000 in
theorem mv_mk_179 : mv_mk 179 (mv_mp.getD 179 []) = true := by decide +kernel
set_option maxRecDepth 100000 in
theorem mv_mk_180 : mv_mk 180 (mv_mp.getD 180 []) = true := by decide +kernel
set_option maxRecDepth 100000 in
theorem mv_mk_181 : mv_mk 181 (mv_mp.getD 181 []) = true := by decide +kernel
set_option maxRecDepth 100000 in
theorem mv_mk_182 : mv_mk 182 (mv_mp.getD 182 []) = true := by decide +kernel
set_option maxRecDepth 100000 in
theorem mv_mk_183 : mv_mk 183 (mv_mp.getD 183 []) = true := by decide +kernel
set_option maxRecDepth 100000 in
theorem mv_mk_184 : mv_mk 184 (mv_mp.getD 184 []) = true := by decide +kernel
set_option maxRecDepth 100000 in
theorem mv_mk_185 : mv_mk 185 (mv_mp.getD 185 []) = true := by decide +kernel
set_option maxRecDepth 100000 in
theorem mv_mk_186 : mv_mk 186 (mv_mp.getD 186 []) = true := by decide +kernel
set_option maxRecDepth 100000 in
theorem mv_mk_187 : mv_mk 187 (mv_mp.getD 187 []) = true := by decide +kernel
set_option maxRecDepth 100000 in
theorem mv_mk_188 : mv_mk 188 (mv_mp.getD 188 []) = true := by decide +kernel
set_option maxRecDepth 100000 in
theorem mv_mk_189 : mv_mk 189 (mv_mp.getD 189 []) = true := by decide +kernel
set_option maxRecDepth 100000 in
theorem mv_mk_190 : mv_mk 190 (mv_mp.getD 190 []) = true := by decide +kernel
set_option maxRecDepth 100000 in
theorem mv_mk_191 : mv_mk 191 (mv_mp.getD 191 []) = true := by decide +kernel
set_option maxRecDepth 100000 in
theorem mv_mk_192 : mv_mk 192 (mv_mp.getD 192 []) = true := by decide +kernel
set_option maxRecDepth 100000 in
theorem mv_mk_193 : mv_mk 193 (mv_mp.getD 193 []) = true := by decide +kernel
set_option maxRecDepth 100000 in
theorem mv_mk_194 : mv_mk 194 (mv_mp.getD 194 []) = true := by decide +kernel
set_option maxRecDepth 100000 in
theorem mv_mk_195 : mv_mk 195 (mv_mp.getD 195 []) = true := by decide +kernel
set_option maxRecDepth 100000 in
theorem mv_mk_196 : mv_mk 196 (mv_mp.getD 196 []) = true := by decide +kernel
set_option maxRecDepth 100000 in
theorem mv_mk_197 : mv_mk 197 (mv_mp.getD 197 []) = true := by decide +kernel
set_option maxRecDepth 100000 in
theorem mv_mk_198 : mv_mk 198 (mv_mp.getD 198 []) = true := by decide +kernel
set_option maxRecDepth 100000 in
theorem mv_mk_199 : mv_mk 199 (mv_mp.getD 199 []) = true := by decide +kernel
set_option maxRecDepth 100000 in
theorem mv_mk_200 : mv_mk 200 (mv_mp.getD 200 []) = true := by decide +kernel
set_option maxRecDepth 100000 in
theorem mv_mk_201 : mv_mk 201 (mv_mp.getD 201 []) = true := by decide +kernel
set_option maxRecDepth 100000 in
theorem mv_mk_202 : mv_mk 202 (mv_mp.getD 202 []) = true := by decide +kernel
set_option maxRecDepth 100000 in
theorem mv_mk_203 : mv_mk 203 (mv_mp.getD 203 []) = true := by decide +kernel
set_option maxRecDepth 100000 in
theorem mv_mk_204 : mv_mk 204 (mv_mp.getD 204 []) = true := by decide +kernel
set_option maxRecDepth 100000 in
theorem mv_mk_205 : mv_mk 205 (mv_mp.getD 205 []) = true := by decide +kernel
end
section
theorem mv_dkA (y : Nat) (hy : y < 206) : mv_dk (mv_by y) (mv_m y).1 = true := by
  match y, hy with
  | 0, _ => exact mv_dk_0
  | 1, _ => exact mv_dk_1
  | 2, _ => exact mv_dk_2
  | 3, _ => exact mv_dk_3
  | 4, _ => exact mv_dk_4
  | 5, _ => exact mv_dk_5
  | 6, _ => exact mv_dk_6
  | 7, _ => exact mv_dk_7
  | 8, _ => exact mv_dk_8
  | 9, _ => exact mv_dk_9
  | 10, _ => exact mv_dk_10
  | 11, _ => exact mv_dk_11
  | 12, _ => exact mv_dk_12
  | 13, _ => exact mv_dk_13
  | 14, _ => exact mv_dk_14
  | 15, _ => exact mv_dk_15
  | 16, _ => exact mv_dk_16
  | 17, _ => exact mv_dk_17
  | 18, _ => exact mv_dk_18
  | 19, _ => exact mv_dk_19
  | 20, _ => exact mv_dk_20
  | 21, _ => exact mv_dk_21
  | 22, _ => exact mv_dk_22
  | 23, _ => exact mv_dk_23
  | 24, _ => exact mv_dk_24
  | 25, _ => exact mv_dk_25
  | 26, _ => exact mv_dk_26
  | 27, _ => exact mv_dk_27
  | 28, _ => exact mv_dk_28
  | 29, _ => exact mv_dk_29
  | 30, _ => exact mv_dk_30
  | 31, _ => exact mv_dk_31
  | 32, _ => exact mv_dk_32
  | 33, _ => exact mv_dk_33
  | 34, _ => exact mv_dk_34
  | 35, _ => exact mv_dk_35
  | 36, _ => exact mv_dk_36
  | 37, _ => exact mv_dk_37
  | 38, _ => exact mv_dk_38
  | 39, _ => exact mv_dk_39
  | 40, _ => exact mv_dk_40
  | 41, _ => exact mv_dk_41
  | 42, _ => exact mv_dk_42
  | 43, _ => exact mv_dk_43
  | 44, _ => exact mv_dk_44
  | 45, _ => exact mv_dk_45
  | 46, _ => exact mv_dk_46
  | 47, _ => exact mv_dk_47
  | 48, _ => exact mv_dk_48
  | 49, _ => exact mv_dk_49
  | 50, _ => exact mv_dk_50
  | 51, _ => exact mv_dk_51
  | 52, _ => exact mv_dk_52
  | 53, _ => exact mv_dk_53
  | 54, _ => exact mv_dk_54
  | 55, _ => exact mv_dk_55
  | 56, _ => exact mv_dk_56
  | 57, _ => exact mv_dk_57
  | 58, _ => exact mv_dk_58
  | 59, _ => exact mv_dk_59
  | 60, _ => exact mv_dk_60
  | 61, _ => exact mv_dk_61
  | 62, _ => exact mv_dk_62
  | 63, _ => exact mv_dk_63
  | 64, _ => exact mv_dk_64
  | 65, _ => exact mv_dk_65
  | 66, _ => exact mv_dk_66
  | 67, _ => exact mv_dk_67
  | 68, _ => exact mv_dk_68
  | 69, _ => exact mv_dk_69
  | 70, _ => exact mv_dk_70
  | 71, _ => exact mv_dk_71
  | 72, _ => exact mv_dk_72
  | 73, _ => exact mv_dk_73
  | 74, _ => exact mv_dk_74
  | 75, _ => exact mv_dk_75
  | 76, _ => exact mv_dk_76
  | 77, _ => exact mv_dk_77
  | 78, _ => exact mv_dk_78
  | 79, _ => exact mv_dk_79
  | 80, _ => exact mv_dk_80
  | 81, _ => exact mv_dk_81
  | 82, _ => exact mv_dk_82
  | 83, _ => exact mv_dk_83
  | 84, _ => exact mv_dk_84
  | 85, _ => exact mv_dk_85
  | 86, _ => exact mv_dk_86
  | 87, _ => exact mv_dk_87
  | 88, _ => exact mv_dk_88
  | 89, _ => exact mv_dk_89
  | 90, _ => exact mv_dk_90
  | 91, _ => exact mv_dk_91
  | 92, _ => exact mv_dk_92
  | 93, _ => exact mv_dk_93
  | 94, _ => exact mv_dk_94
  | 95, _ => exact mv_dk_95
  | 96, _ => exact mv_dk_96
  | 97, _ => exact mv_dk_97
  | 98, _ => exact mv_dk_98
  | 99, _ => exact mv_dk_99
  | 100, _ => exact mv_dk_100
  | 101, _ => exact mv_dk_101
  | 102, _ => exact mv_dk_102
  | 103, _ => exact mv_dk_103
  | 104, _ => exact mv_dk_104
  | 105, _ => exact mv_dk_105
  | 106, _ => exact mv_dk_106
  | 107, _ => exact mv_dk_107
  | 108, _ => exact mv_dk_108
  | 109, _ => exact mv_dk_109
  | 110, _ => exact mv_dk_110
  | 111, _ => exact mv_dk_111
  | 112, _ => exact mv_dk_112
  | 113, _ => exact mv_dk_113
  | 114, _ => exact mv_dk_114
  | 115, _ => exact mv_dk_115
  | 116, _ => exact mv_dk_116
  | 117, _ => exact mv_dk_117
  | 118, _ => exact mv_dk_118
  | 119, _ => exact mv_dk_119
  | 120, _ => exact mv_dk_120
  | 121, _ => exact mv_dk_121
  | 122, _ => exact mv_dk_122
  | 123, _ => exact mv_dk_123
  | 124, _ => exact mv_dk_124
  | 125, _ => exact mv_dk_125
  | 126, _ => exact mv_dk_126
  | 127, _ => exact mv_dk_127
  | 128, _ => exact mv_dk_128
  | 129, _ => exact mv_dk_129
  | 130, _ => exact mv_dk_130
  | 131, _ => exact mv_dk_131
  | 132, _ => exact mv_dk_132
  | 133, _ => exact mv_dk_133
  | 134, _ => exact mv_dk_134
  | 135, _ => exact mv_dk_135
  | 136, _ => exact mv_dk_136
  | 137, _ => exact mv_dk_137
  | 138, _ => exact mv_dk_138
  | 139, _ => exact mv_dk_139
  | 140, _ => exact mv_dk_140
  | 141, _ => exact mv_dk_141
  | 142, _ => exact mv_dk_142
  | 143, _ => exact mv_dk_143
  | 144, _ => exact mv_dk_144
  | 145, _ => exact mv_dk_145
  | 146, _ => exact mv_dk_146
  | 147, _ => exact mv_dk_147
  | 148, _ => exact mv_dk_148
  | 149, _ => exact mv_dk_149
  | 150, _ => exact mv_dk_150
  | 151, _ => exact mv_dk_151
  | 152, _ => exact mv_dk_152
  | 153, _ => exact mv_dk_153
  | 154, _ => exact mv_dk_154
  | 155, _ => exact mv_dk_155
  | 156, _ => exact mv_dk_156
  | 157, _ => exact mv_dk_157
  | 158, _ => exact mv_dk_158
  | 159, _ => exact mv_dk_159
  | 160, _ => exact mv_dk_160
  | 161, _ => exact mv_dk_161
  | 162, _ => exact mv_dk_162
  | 163, _ => exact mv_dk_163
  | 164, _ => exact mv_dk_164
  | 165, _ => exact mv_dk_165
  | 166, _ => exact mv_dk_166
  | 167, _ => exact mv_dk_167
  | 168, _ => exact mv_dk_168
  | 169, _ => exact mv_dk_169
  | 170, _ => exact mv_dk_170
  | 171, _ => exact mv_dk_171
  | 172, _ => exact mv_dk_172
  | 173, _ => exact mv_dk_173
  | 174, _ => exact mv_dk_174
  | 175, _ => exact mv_dk_175
  | 176, _ => exact mv_dk_176
  | 177, _ => exact mv_dk_177
  | 178, _ => exact mv_dk_178
  | 179, _ => exact mv_dk_179
  | 180, _ => exact mv_dk_180
  | 181, _ => exact mv_dk_181
  | 182, _ => exact mv_dk_182
  | 183, _ => exact mv_dk_183
  | 184, _ => exact mv_dk_184
  | 185, _ => exact mv_dk_185
  | 186, _ => exact mv_dk_186
  | 187, _ => exact mv_dk_187
  | 188, _ => exact mv_dk_188
  | 189, _ => exact mv_dk_189
  | 190, _ => exact mv_dk_190
  | 191, _ => exact mv_dk_191
  | 192, _ => exact mv_dk_192
  | 193, _ => exact mv_dk_193
  | 194, _ => exact mv_dk_194
  | 195, _ => exact mv_dk_195
  | 196, _ => exact mv_dk_196
  | 197, _ => exact mv_dk_197
  | 198, _ => exact mv_dk_198
  | 199, _ => exact mv_dk_199
  | 200, _ => exact mv_dk_200
  | 201, _ => exact mv_dk_201
  | 202, _ => exact mv_dk_202
  | 203, _ => exact mv_dk_203
  | 204, _ => exact mv_dk_204
  | 205, _ => exact mv_dk_205
  | k + 206, h => exact absurd h (by omega)
theorem mv_mkA (y : Nat) (hy : y < 206) : mv_mk y (mv_mp.getD y []) = true := by
  match y, hy with
  | 0, _ => exact mv_mk_0
  | 1, _ => exact mv_mk_1
  | 2, _ => exact mv_mk_2
  | 3, _ => exact mv_mk_3
  | 4, _ => exact mv_mk_4
  | 5, _ => exact mv_mk_5
  | 6, _ => exact mv_mk_6
  | 7, _ => exact mv_mk_7
  | 8, _ => exact mv_mk_8
  | 9, _ => exact mv_mk_9
  | 10, _ => exact mv_mk_10
  | 11, _ => exact mv_mk_11
  | 12, _ => exact mv_mk_12
  | 13, _ => exact mv_mk_13
  | 14, _ => exact mv_mk_14
  | 15, _ => exact mv_mk_15
  | 16, _ => exact mv_mk_16
  | 17, _ => exact mv_mk_17
  | 18, _ => exact mv_mk_18
  | 19, _ => exact mv_mk_19
  | 20, _ => exact mv_mk_20
  | 21, _ => exact mv_mk_21
  | 22, _ => exact mv_mk_22
  | 23, _ => exact mv_mk_23
  | 24, _ => exact mv_mk_24
  | 25, _ => exact mv_mk_25
  | 26, _ => exact mv_mk_26
  | 27, _ => exact mv_mk_27
  | 28, _ => exact mv_mk_28
  | 29, _ => exact mv_mk_29
  | 30, _ => exact mv_mk_30
  | 31, _ => exact mv_mk_31
  | 32, _ => exact mv_mk_32
  | 33, _ => exact mv_mk_33
  | 34, _ => exact mv_mk_34
  | 35, _ => exact mv_mk_35
  | 36, _ => exact mv_mk_36
  | 37, _ => exact mv_mk_37
  | 38, _ => exact mv_mk_38
  | 39, _ => exact mv_mk_39
  | 40, _ => exact mv_mk_40
  | 41, _ => exact mv_mk_41
  | 42, _ => exact mv_mk_42
  | 43, _ => exact mv_mk_43
  | 44, _ => exact mv_mk_44
  | 45, _ => exact mv_mk_45
  | 46, _ => exact mv_mk_46
  | 47, _ => exact mv_mk_47
  | 48, _ => exact mv_mk_48
  | 49, _ => exact mv_mk_49
  | 50, _ => exact mv_mk_50
  | 51, _ => exact mv_mk_51
  | 52, _ => exact mv_mk_52
  | 53, _ => exact mv_mk_53
  | 54, _ => exact mv_mk_54
  | 55, _ => exact mv_mk_55
  | 56, _ => exact mv_mk_56
  | 57, _ => exact mv_mk_57
  | 58, _ => exact mv_mk_58
  | 59, _ => exact mv_mk_59
  | 60, _ => exact mv_mk_60
  | 61, _ => exact mv_mk_61
  | 62, _ => exact mv_mk_62
  | 63, _ => exact mv_mk_63
  | 64, _ => exact mv_mk_64
  | 65, _ => exact mv_mk_65
  | 66, _ => exact mv_mk_66
  | 67, _ => exact mv_mk_67
  | 68, _ => exact mv_mk_68
  | 69, _ => exact mv_mk_69
  | 70, _ => exact mv_mk_70
  | 71, _ => exact mv_mk_71
  | 72, _ => exact mv_mk_72
  | 73, _ => exact mv_mk_73
  | 74, _ => exact mv_mk_74
  | 75, _ => exact mv_mk_75
  | 76, _ => exact mv_mk_76
  | 77, _ => exact mv_mk_77
  | 78, _ => exact mv_mk_78
  | 79, _ => exact mv_mk_79
  | 80, _ => exact mv_mk_80
  | 81, _ => exact mv_mk_81
  | 82, _ => exact mv_mk_82
  | 83, _ => exact mv_mk_83
  | 84, _ => exact mv_mk_84
  | 85, _ => exact mv_mk_85
  | 86, _ => exact mv_mk_86
  | 87, _ => exact mv_mk_87
  | 88, _ => exact mv_mk_88
  | 89, _ => exact mv_mk_89
  | 90, _ => exact mv_mk_90
  | 91, _ => exact mv_mk_91
  | 92, _ => exact mv_mk_92
  | 93, _ => exact mv_mk_93
  | 94, _ => exact mv_mk_94
  | 95, _ => exact mv_mk_95
  | 96, _ => exact mv_mk_96
  | 97, _ => exact mv_mk_97
  | 98, _ => exact mv_mk_98
  | 99, _ => exact mv_mk_99
  | 100, _ => exact mv_mk_100
  | 101, _ => exact mv_mk_101
  | 102, _ => exact mv_mk_102
  | 103, _ => exact mv_mk_103
  | 104, _ => exact mv_mk_104
  | 105, _ => exact mv_mk_105
  | 106, _ => exact mv_mk_106
  | 107, _ => exact mv_mk_107
  | 108, _ => exact mv_mk_108
  | 109, _ => exact mv_mk_109
  | 110, _ => exact mv_mk_110
  | 111, _ => exact mv_mk_111
  | 112, _ => exact mv_mk_112
  | 113, _ => exact mv_mk_113
  | 114, _ => exact mv_mk_114
  | 115, _ => exact mv_mk_115
  | 116, _ => exact mv_mk_116
  | 117, _ => exact mv_mk_117
  | 118, _ => exact mv_mk_118
  | 119, _ => exact mv_mk_119
  | 120, _ => exact mv_mk_120
  | 121, _ => exact mv_mk_121
  | 122, _ => exact mv_mk_122
  | 123, _ => exact mv_mk_123
  | 124, _ => exact mv_mk_124
  | 125, _ => exact mv_mk_125
  | 126, _ => exact mv_mk_126
  | 127, _ => exact mv_mk_127
  | 128, _ => exact mv_mk_128
  | 129, _ => exact mv_mk_129
  | 130, _ => exact mv_mk_130
  | 131, _ => exact mv_mk_131
  | 132, _ => exact mv_mk_132
  | 133, _ => exact mv_mk_133
  | 134, _ => exact mv_mk_134
  | 135, _ => exact mv_mk_135
  | 136, _ => exact mv_mk_136
  | 137, _ => exact mv_mk_137
  | 138, _ => exact mv_mk_138
  | 139, _ => exact mv_mk_139
  | 140, _ => exact mv_mk_140
  | 141, _ => exact mv_mk_141
  | 142, _ => exact mv_mk_142
  | 143, _ => exact mv_mk_143
  | 144, _ => exact mv_mk_144
  | 145, _ => exact mv_mk_145
  | 146, _ => exact mv_mk_146
  | 147, _ => exact mv_mk_147
  | 148, _ => exact mv_mk_148
  | 149, _ => exact mv_mk_149
  | 150, _ => exact mv_mk_150
  | 151, _ => exact mv_mk_151
  | 152, _ => exact mv_mk_152
  | 153, _ => exact mv_mk_153
  | 154, _ => exact mv_mk_154
  | 155, _ => exact mv_mk_155
  | 156, _ => exact mv_mk_156
  | 157, _ => exact mv_mk_157
  | 158, _ => exact mv_mk_158
  | 159, _ => exact mv_mk_159
  | 160, _ => exact mv_mk_160
  | 161, _ => exact mv_mk_161
  | 162, _ => exact mv_mk_162
  | 163, _ => exact mv_mk_163
  | 164, _ => exact mv_mk_164
  | 165, _ => exact mv_mk_165
  | 166, _ => exact mv_mk_166
  | 167, _ => exact mv_mk_167
  | 168, _ => exact mv_mk_168
  | 169, _ => exact mv_mk_169
  | 170, _ => exact mv_mk_170
  | 171, _ => exact mv_mk_171
  | 172, _ => exact mv_mk_172
  | 173, _ => exact mv_mk_173
  | 174, _ => exact mv_mk_174
  | 175, _ => exact mv_mk_175
  | 176, _ => exact mv_mk_176
  | 177, _ => exact mv_mk_177
  | 178, _ => exact mv_mk_178
  | 179, _ => exact mv_mk_179
  | 180, _ => exact mv_mk_180
  | 181, _ => exact mv_mk_181
  | 182, _ => exact mv_mk_182
  | 183, _ => exact mv_mk_183
  | 184, _ => exact mv_mk_184
  | 185, _ => exact mv_mk_185
  | 186, _ => exact mv_mk_186
  | 187, _ => exact mv_mk_187
  | 188, _ => exact mv_mk_188
  | 189, _ => exact mv_mk_189
  | 190, _ => exact mv_mk_190
  | 191, _ => exact mv_mk_191
  | 192, _ => exact mv_mk_192
  | 193, _ => exact mv_mk_193
  | 194, _ => exact mv_mk_194
  | 195, _ => exact mv_mk_195
  | 196, _ => exact mv_mk_196
  | 197, _ => exact mv_mk_197
  | 198, _ => exact mv_mk_198
  | 199, _ => exact mv_mk_199
  | 200, _ => exact mv_mk_200
  | 201, _ => exact mv_mk_201
  | 202, _ => exact mv_mk_202
  | 203, _ => exact mv_mk_203
  | 204, _ => exact mv_mk_204
  | 205, _ => exact mv_mk_205
  | k + 206, h => exact absurd h (by omega)
end
section
/-! a small machine over numbers: values (tag, number), objects (tag, length, contents), by which the methods are walked; the real machine follows it (part 05) -/
abbrev mv_O : Type := Nat × Int × (Int → Int)
abbrev mv_H : Type := Int → mv_O
abbrev mv_C : Type := Nat × Nat × Nat
abbrev mv_R : Type := Nat × Int
abbrev mv_i (x : Int) : Prop := -2147483648 ≤ x ∧ x ≤ 2147483647
abbrev mv_l (x : Int) : Prop := -9223372036854775808 ≤ x ∧ x ≤ 9223372036854775807
def mv_up (f : Int → Int) (i x : Int) : Int → Int := fun j => if j = i then x else f j
def mv_uo (h : mv_H) (a : Int) (o : mv_O) : mv_H := fun b => if b = a then o else h b
def mv_get : mv_K → Nat → Option (Instr × Int)
  | [], _ => none
  | (q, i, a) :: k, pc => cond (Nat.beq q pc) (some (i, a)) (mv_get k pc)
def mv_ents : List mv_V → List mv_V
  | [] => []
  | v :: r => if v.1 = 1 then v :: (5, 0) :: mv_ents r else v :: mv_ents r
def mv_ent (vs : List mv_V) (n : Nat) : List mv_V := mv_ents vs ++ List.replicate (n - (mv_ents vs).length) (5, 0)
/-- a store of one word: not upon the second half of a long -/
def mv_s1 (ls : List mv_V) (i : Nat) (v : mv_V) : Option (List mv_V) :=
  if i < ls.length then (if 0 < i ∧ (ls.getD (i - 1) (5, 0)).1 = 1 then none else some (ls.set i v)) else none
def mv_s2 (ls : List mv_V) (i : Nat) (v : mv_V) : Option (List mv_V) :=
  if i + 1 < ls.length then (if 0 < i ∧ (ls.getD (i - 1) (5, 0)).1 = 1 then none else some ((ls.set i v).set (i + 1) (5, 0))) else none
/-- fields: how many, and of what type (0 int, 2 reference) -/
def mv_fs : List (List Nat) := [[2, 0, 2, 2, 2, 2, 2, 2, 2, 2], [2, 2, 2, 2, 2, 0, 0], [2, 2, 2, 2, 2, 0, 0], [2, 0, 0], [0, 2, 0, 2, 2, 2, 2, 0, 2, 2, 2, 2, 2, 0, 2, 0]]
def mv_fn (ci : Nat) : Nat := (mv_fs.getD ci []).length
def mv_ft (ci k : Nat) : Nat := (mv_fs.getD ci []).getD k 0
def mv_df (ci : Nat) : Int → Int := fun k => if mv_ft ci k.toNat = 0 then 0 else -1
def mv_cmp (k : ClassFile.Cond) (x y : Int) : Bool := match k with
  | .eq => decide (x = y)
  | .ne => decide (¬ x = y)
  | .lt => decide (x < y)
  | .ge => decide (y ≤ x)
  | .gt => decide (y < x)
  | .le => decide (x ≤ y)
def mv_ak (t : ArrayType) : Nat := match t with
  | .int => 10
  | .char => 11
  | .boolean => 12
  | .long => 13
  | _ => 99
abbrev mv_S : Type := Nat × List mv_V × List mv_V × mv_C × mv_H
def mv_jmp (pc : Nat) (off : Int) (ls st : List mv_V) (c : mv_C) (h : mv_H) : Option mv_S := if 0 ≤ (pc : Int) + off then some (((pc : Int) + off).toNat, ls, st, c, h) else none
def mv_ld (t : Nat) (i pc : Nat) (ls st : List mv_V) (c : mv_C) (h : mv_H) : Option mv_S := match ls[i]? with
  | some v => if v.1 = t then some (pc, ls, v :: st, c, h) else none
  | none => none
def mv_b2 (st : List mv_V) (f : Int → Int → List mv_V → Option mv_S) : Option mv_S := match st with
  | (0, y) :: (0, x) :: r => f x y r
  | _ => none
def mv_j2 (st : List mv_V) (f : Int → Int → List mv_V → Option mv_S) : Option mv_S := match st with
  | (1, y) :: (1, x) :: r => f x y r
  | _ => none
def mv_cL (x y : Int) : Int := if x < y then -1 else if x = y then 0 else 1
/-- one instruction that neither calls nor ends -/
def mv_step (sc : Int × (Int → Int)) (pc : Nat) (i : Instr) (a : Int) (ls st : List mv_V) (c : mv_C) (h : mv_H) : Option mv_S := match i with
  | .iconst n => some (pc + 1, ls, (0, n) :: st, c, h)
  | .bipush n => if -128 ≤ n ∧ n < 128 then some (pc + 2, ls, (0, n) :: st, c, h) else none
  | .sipush n => if -32768 ≤ n ∧ n < 32768 then some (pc + 3, ls, (0, n) :: st, c, h) else none
  | .ldc _ => some (pc + 2, ls, (0, a) :: st, c, h)
  | .ldc_w _ => some (pc + 3, ls, (0, a) :: st, c, h)
  | .ldc2_w _ => some (pc + 3, ls, (1, a) :: st, c, h)
  | .lconst n => some (pc + 1, ls, (1, ((n : Nat) : Int)) :: st, c, h)
  | .iload k => mv_ld 0 k (pc + 2) ls st c h
  | .iload_n k => mv_ld 0 k (pc + 1) ls st c h
  | .lload k => mv_ld 1 k (pc + 2) ls st c h
  | .lload_n k => mv_ld 1 k (pc + 1) ls st c h
  | .aload k => match ls[k]? with
    | some v => if v.1 = 2 ∨ v.1 = 4 then some (pc + 2, ls, v :: st, c, h) else none
    | none => none
  | .aload_n k => match ls[(k : Nat)]? with
    | some v => if v.1 = 2 ∨ v.1 = 4 then some (pc + 1, ls, v :: st, c, h) else none
    | none => none
  | .istore k => match st with
    | (0, x) :: r => (mv_s1 ls k (0, x)).map fun l => (pc + 2, l, r, c, h)
    | _ => none
  | .istore_n k => match st with
    | (0, x) :: r => (mv_s1 ls k (0, x)).map fun l => (pc + 1, l, r, c, h)
    | _ => none
  | .lstore k => match st with
    | (1, x) :: r => (mv_s2 ls k (1, x)).map fun l => (pc + 2, l, r, c, h)
    | _ => none
  | .lstore_n k => match st with
    | (1, x) :: r => (mv_s2 ls k (1, x)).map fun l => (pc + 1, l, r, c, h)
    | _ => none
  | .astore k => match st with
    | v :: r => if v.1 = 2 ∨ v.1 = 3 then (mv_s1 ls k v).map fun l => (pc + 2, l, r, c, h) else none
    | _ => none
  | .astore_n k => match st with
    | v :: r => if v.1 = 2 ∨ v.1 = 3 then (mv_s1 ls k v).map fun l => (pc + 1, l, r, c, h) else none
    | _ => none
  | .iinc k n => match ls[k]? with
    | some (0, x) => (mv_s1 ls k (0, x + n)).map fun l => (pc + 3, l, st, c, h)
    | _ => none
  | .iadd => mv_b2 st fun x y r => some (pc + 1, ls, (0, x + y) :: r, c, h)
  | .isub => mv_b2 st fun x y r => some (pc + 1, ls, (0, x - y) :: r, c, h)
  | .imul => mv_b2 st fun x y r => some (pc + 1, ls, (0, x * y) :: r, c, h)
  | .idiv => mv_b2 st fun x y r => if mv_i x ∧ 0 < y ∧ mv_i y then some (pc + 1, ls, (0, x.tdiv y) :: r, c, h) else none
  | .irem => mv_b2 st fun x y r => if mv_i x ∧ 0 < y ∧ mv_i y then some (pc + 1, ls, (0, x.tmod y) :: r, c, h) else none
  | .ishl => mv_b2 st fun x y r => if 0 ≤ y ∧ y < 32 then some (pc + 1, ls, (0, x * 2 ^ y.toNat) :: r, c, h) else none
  | .ishr => mv_b2 st fun x y r => if mv_i x ∧ 0 ≤ y ∧ y < 32 then some (pc + 1, ls, (0, x / 2 ^ y.toNat) :: r, c, h) else none
  | .iand => mv_b2 st fun x y r => if y = 1 ∨ y = 31 then some (pc + 1, ls, (0, x % (y + 1)) :: r, c, h) else none
  | .ior => mv_b2 st fun x y r => if 0 ≤ x ∧ 0 ≤ y ∧ mv_i x ∧ mv_i y then some (pc + 1, ls, (0, ((x.toNat ||| y.toNat : Nat) : Int)) :: r, c, h) else none
  | .ixor => mv_b2 st fun x y r => if 0 ≤ x ∧ 0 ≤ y ∧ mv_i x ∧ mv_i y then some (pc + 1, ls, (0, ((x.toNat ^^^ y.toNat : Nat) : Int)) :: r, c, h) else none
  | .ladd => mv_j2 st fun x y r => some (pc + 1, ls, (1, x + y) :: r, c, h)
  | .lsub => mv_j2 st fun x y r => some (pc + 1, ls, (1, x - y) :: r, c, h)
  | .lmul => mv_j2 st fun x y r => some (pc + 1, ls, (1, x * y) :: r, c, h)
  | .ldiv => mv_j2 st fun x y r => if mv_l x ∧ 0 < y ∧ mv_l y then some (pc + 1, ls, (1, x.tdiv y) :: r, c, h) else none
  | .lrem => mv_j2 st fun x y r => if mv_l x ∧ 0 < y ∧ mv_l y then some (pc + 1, ls, (1, x.tmod y) :: r, c, h) else none
  | .land => mv_j2 st fun x y r => if y = 4294967295 then some (pc + 1, ls, (1, x % 4294967296) :: r, c, h) else none
  | .lor => mv_j2 st fun x y r => if x % 4294967296 = 0 ∧ 0 ≤ y ∧ y < 4294967296 then some (pc + 1, ls, (1, x + y) :: r, c, h) else none
  | .lshl => match st with
    | (0, y) :: (1, x) :: r => if 0 ≤ y ∧ y < 64 then some (pc + 1, ls, (1, x * 2 ^ y.toNat) :: r, c, h) else none
    | _ => none
  | .lushr => match st with
    | (0, y) :: (1, x) :: r => if 0 < y ∧ y < 64 then some (pc + 1, ls, (1, (x % 18446744073709551616) / 2 ^ y.toNat) :: r, c, h) else none
    | _ => none
  | .i2l => match st with
    | (0, x) :: r => if mv_i x then some (pc + 1, ls, (1, x) :: r, c, h) else none
    | _ => none
  | .l2i => match st with
    | (1, x) :: r => some (pc + 1, ls, (0, x) :: r, c, h)
    | _ => none
  | .i2c => match st with
    | (0, x) :: r => if 0 ≤ x ∧ x < 65536 then some (pc + 1, ls, (0, x) :: r, c, h) else none
    | _ => none
  | .lcmp => mv_j2 st fun x y r => if mv_l x ∧ mv_l y then some (pc + 1, ls, (0, mv_cL x y) :: r, c, h) else none
  | .pop => match st with
    | v :: r => if v.1 = 0 ∨ v.1 = 2 then some (pc + 1, ls, r, c, h) else none
    | _ => none
  | .dup => match st with
    | v :: r => if v.1 = 0 ∨ v.1 = 2 then some (pc + 1, ls, v :: v :: r, c, h) else none
    | _ => none
  | .dup2 => match st with
    | v :: w :: r => if (v.1 = 0 ∨ v.1 = 2) ∧ (w.1 = 0 ∨ w.1 = 2) then some (pc + 1, ls, v :: w :: v :: w :: r, c, h) else none
    | _ => none
  | .goto off => mv_jmp pc off ls st c h
  | .ifCond k off => match st with
    | (0, x) :: r => if mv_i x ∧ 0 ≤ (pc : Int) + off then (if mv_cmp k x 0 = true then some (((pc : Int) + off).toNat, ls, r, c, h) else some (pc + 3, ls, r, c, h)) else none
    | _ => none
  | .if_icmp k off => mv_b2 st fun x y r => if mv_i x ∧ mv_i y ∧ 0 ≤ (pc : Int) + off then (if mv_cmp k x y = true then some (((pc : Int) + off).toNat, ls, r, c, h) else some (pc + 3, ls, r, c, h)) else none
  | .tableswitch d lo hi offs => match st with
    | (0, x) :: r => if mv_i x then (if x < lo ∨ hi < x then mv_jmp pc d ls r c h else match offs[(x - lo).toNat]? with
        | some off => mv_jmp pc off ls r c h
        | none => none) else none
    | _ => none
  | .getfield _ => match st with
    | (2, o) :: r => if (h o).1 = (a / 100).toNat ∧ (a % 100).toNat < mv_fn (a / 100).toNat then (if mv_ft (a / 100).toNat (a % 100).toNat = 0 then some (pc + 3, ls, (0, (h o).2.2 (a % 100)) :: r, c, h) else if 0 ≤ (h o).2.2 (a % 100) then some (pc + 3, ls, (2, (h o).2.2 (a % 100)) :: r, c, h) else none) else none
    | _ => none
  | .putfield _ => match st with
    | v :: (2, o) :: r => if (h o).1 = (a / 100).toNat ∧ (a % 100).toNat < mv_fn (a / 100).toNat ∧ v.1 = mv_ft (a / 100).toNat (a % 100).toNat then some (pc + 3, ls, r, c, mv_uo h o ((h o).1, (h o).2.1, mv_up (h o).2.2 (a % 100) v.2)) else none
    | _ => none
  | .arraylength => match st with
    | (2, o) :: r => if 10 ≤ (h o).1 then some (pc + 1, ls, (0, (h o).2.1) :: r, c, h) else none
    | (4, _) :: r => some (pc + 1, ls, (0, sc.1) :: r, c, h)
    | _ => none
  | .iaload => match st with
    | (0, j) :: (2, o) :: r => if (h o).1 = 10 ∧ 0 ≤ j ∧ j < (h o).2.1 then some (pc + 1, ls, (0, (h o).2.2 j) :: r, c, h) else none
    | (0, j) :: (4, _) :: r => if 0 ≤ j ∧ j < sc.1 then some (pc + 1, ls, (0, sc.2 j) :: r, c, h) else none
    | _ => none
  | .caload => match st with
    | (0, j) :: (2, o) :: r => if (h o).1 = 11 ∧ 0 ≤ j ∧ j < (h o).2.1 then some (pc + 1, ls, (0, (h o).2.2 j) :: r, c, h) else none
    | _ => none
  | .baload => match st with
    | (0, j) :: (2, o) :: r => if (h o).1 = 12 ∧ 0 ≤ j ∧ j < (h o).2.1 then some (pc + 1, ls, (0, (h o).2.2 j) :: r, c, h) else none
    | _ => none
  | .laload => match st with
    | (0, j) :: (2, o) :: r => if (h o).1 = 13 ∧ 0 ≤ j ∧ j < (h o).2.1 then some (pc + 1, ls, (1, (h o).2.2 j) :: r, c, h) else none
    | _ => none
  | .aaload => match st with
    | (0, j) :: (2, o) :: r => if ((h o).1 = 14 ∨ (h o).1 = 15) ∧ 0 ≤ j ∧ j < (h o).2.1 ∧ 0 ≤ (h o).2.2 j then some (pc + 1, ls, (2, (h o).2.2 j) :: r, c, h) else none
    | _ => none
  | .iastore => match st with
    | (0, x) :: (0, j) :: (2, o) :: r => if (h o).1 = 10 ∧ 0 ≤ j ∧ j < (h o).2.1 then some (pc + 1, ls, r, c, mv_uo h o ((h o).1, (h o).2.1, mv_up (h o).2.2 j x)) else none
    | _ => none
  | .castore => match st with
    | (0, x) :: (0, j) :: (2, o) :: r => if (h o).1 = 11 ∧ 0 ≤ j ∧ j < (h o).2.1 ∧ 0 ≤ x ∧ x < 65536 then some (pc + 1, ls, r, c, mv_uo h o ((h o).1, (h o).2.1, mv_up (h o).2.2 j x)) else none
    | _ => none
  | .bastore => match st with
    | (0, x) :: (0, j) :: (2, o) :: r => if (h o).1 = 12 ∧ 0 ≤ j ∧ j < (h o).2.1 ∧ (x = 0 ∨ x = 1) then some (pc + 1, ls, r, c, mv_uo h o ((h o).1, (h o).2.1, mv_up (h o).2.2 j x)) else none
    | _ => none
  | .lastore => match st with
    | (1, x) :: (0, j) :: (2, o) :: r => if (h o).1 = 13 ∧ 0 ≤ j ∧ j < (h o).2.1 then some (pc + 1, ls, r, c, mv_uo h o ((h o).1, (h o).2.1, mv_up (h o).2.2 j x)) else none
    | _ => none
  | .aastore => match st with
    | (2, x) :: (0, j) :: (2, o) :: r => if (((h o).1 = 14 ∧ (h x).1 = 1) ∨ ((h o).1 = 15 ∧ (h x).1 = 2)) ∧ 0 ≤ j ∧ j < (h o).2.1 then some (pc + 1, ls, r, c, mv_uo h o ((h o).1, (h o).2.1, mv_up (h o).2.2 j x)) else none
    | _ => none
  | .new _ => if 0 ≤ a ∧ a < 5 then some (pc + 3, ls, (2, (c.1 : Int)) :: st, (c.1 + 1, c.2.1 + 1, c.2.2 + mv_fn a.toNat), mv_uo h c.1 (a.toNat, (mv_fn a.toNat : Int), mv_df a.toNat)) else none
  | .newarray t => match st with
    | (0, n) :: r => if 0 ≤ n ∧ n ≤ 100000 ∧ mv_ak t < 99 then some (pc + 2, ls, (2, (c.1 : Int)) :: r, (c.1 + 1, c.2.1 + 1, c.2.2 + n.toNat), mv_uo h c.1 (mv_ak t, n, fun _ => 0)) else none
    | _ => none
  | .anewarray _ => match st with
    | (0, n) :: r => if 0 ≤ n ∧ n ≤ 100000 ∧ (a = 14 ∨ a = 15) then some (pc + 3, ls, (2, (c.1 : Int)) :: r, (c.1 + 1, c.2.1 + 1, c.2.2 + n.toNat), mv_uo h c.1 (a.toNat, n, fun _ => -1)) else none
    | _ => none
  | _ => none
/-- 0: an instruction of mv_step; 1: a call; 2: an end; 3: a throw -/
def mv_ki (i : Instr) (a : Int) : Nat := match i with
  | .invokevirtual _ => 1
  | .invokespecial _ => 1
  | .invokestatic _ => 1
  | .ireturn => 2
  | .lreturn => 2
  | .areturn => 2
  | .return_ => 2
  | .new _ => if a < 0 then 3 else 0
  | _ => 0
def mv_hnd : List (Nat × Nat × Nat × Nat) → Nat → Int → Option Nat
  | [], _, _ => none
  | (s, e, hp, x) :: r, pc, E => if s ≤ pc ∧ pc < e ∧ (x : Int) = E then some hp else mv_hnd r pc E
def mv_ret (k : Nat) (i : Instr) (st : List mv_V) : Option mv_R := match i with
  | .ireturn => match st with
    | [(0, x)] => if k = 0 ∨ (k = 4 ∧ (x = 0 ∨ x = 1)) then some (0, x) else none
    | _ => none
  | .lreturn => match st with
    | [(1, x)] => if k = 1 then some (1, x) else none
    | _ => none
  | .areturn => match st with
    | [(2, x)] => if k = 2 then some (2, x) else none
    | _ => none
  | .return_ => match st with
    | [] => if k = 3 then some (3, 0) else none
    | _ => none
  | _ => none
/-- the receiver of a call: of its class, or any object for a constructor -/
def mv_rc (i : Instr) (z : Nat) (vs : List mv_V) (h : mv_H) : Bool := match i with
  | .invokevirtual _ => match vs with
    | (2, b) :: _ => decide ((h b).1 = (mv_m z).2.2.2.2.1)
    | _ => false
  | .invokespecial _ => match vs with
    | (2, _) :: _ => true
    | _ => false
  | _ => true
/-- no constructor's call -/
def mv_nsp (i : Instr) : Bool := match i with
  | .invokespecial _ => false
  | _ => true
def mv_run (sc : Int × (Int → Int)) : Nat → Nat → Nat → List mv_V → List mv_V → mv_C → mv_H → Option (mv_R × mv_C × mv_H)
  | 0, _, _, _, _, _, _ => none
  | n + 1, y, pc, ls, st, c, h => match mv_get (mv_m y).1 pc with
    | none => none
    | some (i, a) => match mv_ki i a with
      | 0 => match mv_step sc pc i a ls st c h with
        | some (pc', ls', st', c', h') => mv_run sc n y pc' ls' st' c' h'
        | none => none
      | 1 => if (mv_m (mv_z a)).2.1 ≤ st.length ∧ st.length ≤ (mv_m (mv_z a)).2.1 + 4 ∧ mv_rc i (mv_z a) (st.take (mv_m (mv_z a)).2.1).reverse h = true ∧ (mv_ents (st.take (mv_m (mv_z a)).2.1).reverse).length ≤ (mv_m (mv_z a)).2.2.1 then
          match mv_run sc n (mv_z a) 0 (mv_ent (st.take (mv_m (mv_z a)).2.1).reverse (mv_m (mv_z a)).2.2.1) [] c h with
          | some (r, c1, h1) => if r.1 = 4 then (if a < 1000 ∧ mv_nsp i = true ∧ (mv_m (mv_z a)).2.2.2.2.2 = [] ∧ 0 ≤ r.2 ∧ r.2 < 3 then (match mv_hnd (mv_m y).2.2.2.2.2 pc r.2 with
              | some hp => mv_run sc n y hp ls [(3, 0)] c1 h1
              | none => if (mv_m y).2.2.2.2.2 = [] then some (r, c1, h1) else none) else none)
            else if r.1 = 3 then mv_run sc n y (pc + 3) ls (st.drop (mv_m (mv_z a)).2.1) c1 h1
            else mv_run sc n y (pc + 3) ls (r :: st.drop (mv_m (mv_z a)).2.1) c1 h1
          | none => none
        else none
      | 2 => (mv_ret (mv_m y).2.2.2.1 i st).map fun r => (r, c, h)
      | _ => if (mv_m y).2.2.2.2.2 = [] ∧ st = [] then some ((4, -1 - a), (c.1, c.2.1 + 1, c.2.2 + 6), h) else none
end
section
/-! numbers: what the machine computes over words is what the small machine computes over whole numbers -/
/-! of the kit's rows for pasting -/
theorem wb_tb (n : Nat) : (lN n).toBitVec = BitVec.ofNat 64 n := rfl
theorem wb_inj {a b : Int64} (h : a.toBitVec = b.toBitVec) : a = b := Int64.toBitVec_inj.mp h
theorem wb_tn {n : Nat} (h : n < 2 ^ 64) : (lN n).toBitVec.toNat = n := by rw [wb_tb, BitVec.toNat_ofNat, Nat.mod_eq_of_lt h]
theorem wb_c : ∀ k, k < 64 → ((nI k).toInt64 &&& 63) = lN k := by decide +kernel
theorem wb_cu : ∀ k, k < 64 → ((nI k).toInt64.toUInt64 &&& Int64.toUInt64 63) = UInt64.ofNat k := by decide +kernel
theorem wb_sm : ∀ k, k < 64 → (BitVec.ofNat 64 k).smod 64 = BitVec.ofNat 64 k := by decide +kernel
theorem wb_mod (n : Nat) : lN n = lN (n % 2 ^ 64) := wb_inj (by rw [wb_tb, wb_tb]; apply BitVec.eq_of_toNat_eq; rw [BitVec.toNat_ofNat, BitVec.toNat_ofNat, Nat.mod_mod])
theorem wb_shr {n k : Nat} (hn : n < 2 ^ 64) (hk : k < 64) : ((lN n).toUInt64 >>> ((nI k).toInt64.toUInt64 &&& Int64.toUInt64 63)).toInt64 = lN (n / 2 ^ k) := by
  rw [wb_cu k hk]
  apply wb_inj
  apply BitVec.eq_of_toNat_eq
  show ((lN n).toUInt64 >>> UInt64.ofNat k).toNat = (BitVec.ofNat 64 _).toNat
  have h1 : (UInt64.ofNat k).toNat = k := by
    show (BitVec.ofNat 64 k).toNat = k
    rw [BitVec.toNat_ofNat, Nat.mod_eq_of_lt (by omega)]
  have h2 : (lN n).toUInt64.toNat = n := wb_tn hn
  rw [UInt64.toNat_shiftRight, h1, h2, Nat.mod_eq_of_lt hk, Nat.shiftRight_eq_div_pow, BitVec.toNat_ofNat, Nat.mod_eq_of_lt (Nat.lt_of_le_of_lt (Nat.div_le_self _ _) hn)]
theorem wb_shl (n : Nat) {k : Nat} (hk : k < 64) : lN n <<< ((nI k).toInt64 &&& 63) = lN (n * 2 ^ k) := by
  rw [wb_c k hk]
  apply wb_inj
  rw [Int64.toBitVec_shiftLeft, wb_tb, wb_tb, wb_tb, wb_sm k hk]
  apply BitVec.eq_of_toNat_eq
  rw [BitVec.shiftLeft_eq', BitVec.toNat_shiftLeft, BitVec.toNat_ofNat, BitVec.toNat_ofNat, BitVec.toNat_ofNat, Nat.mod_eq_of_lt (show k < 2 ^ 64 by omega), Nat.shiftLeft_eq, Nat.mul_mod, Nat.mod_mod, ← Nat.mul_mod]
/-! own -/
theorem nu_ti {x : Int} (h : mv_i x) : (Int32.ofInt x).toInt = x := Int32.toInt_ofInt_of_le (by have := h.1; omega) (by have := h.2; omega)
theorem nu_tl {x : Int} (h : mv_l x) : (Int64.ofInt x).toInt = x := Int64.toInt_ofInt_of_le (by have := h.1; omega) (by have := h.2; omega)
theorem nu_eqi {a b : Int32} (h : a.toInt = b.toInt) : a = b := Int32.toInt_inj.mp h
theorem nu_eql {a b : Int64} (h : a.toInt = b.toInt) : a = b := Int64.toInt_inj.mp h
theorem nu_lt {x y : Int} (hx : mv_i x) (hy : mv_i y) : Int32.ofInt x < Int32.ofInt y ↔ x < y := by
  rw [Int32.lt_iff_toInt_lt, nu_ti hx, nu_ti hy]
theorem nu_le {x y : Int} (hx : mv_i x) (hy : mv_i y) : Int32.ofInt x ≤ Int32.ofInt y ↔ x ≤ y := by
  rw [Int32.le_iff_toInt_le, nu_ti hx, nu_ti hy]
theorem nu_eq {x y : Int} (hx : mv_i x) (hy : mv_i y) : Int32.ofInt x = Int32.ofInt y ↔ x = y := by
  rw [← Int32.toInt_inj, nu_ti hx, nu_ti hy]
theorem nu_lL {x y : Int} (hx : mv_l x) (hy : mv_l y) : Int64.ofInt x < Int64.ofInt y ↔ x < y := by
  rw [Int64.lt_iff_toInt_lt, nu_tl hx, nu_tl hy]
theorem nu_eL {x y : Int} (hx : mv_l x) (hy : mv_l y) : Int64.ofInt x = Int64.ofInt y ↔ x = y := by
  rw [← Int64.toInt_inj, nu_tl hx, nu_tl hy]
theorem nu_nI (n : Nat) : Int32.ofInt (n : Int) = nI n := rfl
theorem nu_nz {y : Int} (h : 0 < y) (hy : mv_i y) : ¬ Int32.ofInt y = 0 := by
  intro e
  have h0 : (Int32.ofInt y).toInt = (0 : Int32).toInt := by rw [e]
  rw [nu_ti hy] at h0
  have : (0 : Int32).toInt = 0 := rfl
  omega
theorem nu_nzl {y : Int} (h : 0 < y) (hy : mv_l y) : ¬ Int64.ofInt y = 0 := by
  intro e
  have h0 : (Int64.ofInt y).toInt = (0 : Int64).toInt := by rw [e]
  rw [nu_tl hy] at h0
  have : (0 : Int64).toInt = 0 := rfl
  omega
theorem nu_tdb {x y : Int} (hy : 0 < y) : (0 ≤ x → 0 ≤ x.tdiv y ∧ x.tdiv y ≤ x) ∧ (x ≤ 0 → x ≤ x.tdiv y ∧ x.tdiv y ≤ 0) := by
  constructor
  · intro hx
    obtain ⟨a, rfl⟩ := Int.eq_ofNat_of_zero_le hx
    obtain ⟨b, rfl⟩ := Int.eq_ofNat_of_zero_le (Int.le_of_lt hy)
    have h1 : (a : Int).tdiv (b : Int) = ((a / b : Nat) : Int) := rfl
    rw [h1]
    have h2 := Nat.div_le_self a b
    generalize a / b = c at h2 ⊢
    omega
  · intro hx
    obtain ⟨a, ha⟩ := Int.eq_ofNat_of_zero_le (show 0 ≤ -x by omega)
    obtain ⟨b, rfl⟩ := Int.eq_ofNat_of_zero_le (Int.le_of_lt hy)
    have hx' : x = -(a : Int) := by omega
    subst hx'
    rw [Int.neg_tdiv]
    have h1 : (a : Int).tdiv (b : Int) = ((a / b : Nat) : Int) := rfl
    rw [h1]
    have h2 := Nat.div_le_self a b
    generalize a / b = c at h2 ⊢
    omega
theorem nu_tdi {x y : Int} (hx : mv_i x) (hy : 0 < y) : mv_i (x.tdiv y) := by
  obtain ⟨h1, h2⟩ := nu_tdb (x := x) hy
  have := hx.1; have := hx.2
  rcases Int.le_total 0 x with h | h
  · have := h1 h; exact ⟨by omega, by omega⟩
  · have := h2 h; exact ⟨by omega, by omega⟩
theorem nu_tdl {x y : Int} (hx : mv_l x) (hy : 0 < y) : mv_l (x.tdiv y) := by
  obtain ⟨h1, h2⟩ := nu_tdb (x := x) hy
  have := hx.1; have := hx.2
  rcases Int.le_total 0 x with h | h
  · have := h1 h; exact ⟨by omega, by omega⟩
  · have := h2 h; exact ⟨by omega, by omega⟩
theorem nu_bm32 {x : Int} (h : mv_i x) : x.bmod (2 ^ 32) = x := by
  have := h.1; have := h.2
  exact Int.bmod_eq_of_le (by omega) (by omega)
theorem nu_bm64 {x : Int} (h : mv_l x) : x.bmod (2 ^ 64) = x := by
  have := h.1; have := h.2
  exact Int.bmod_eq_of_le (by omega) (by omega)
theorem nu_div {x y : Int} (hx : mv_i x) (hp : 0 < y) (hy : mv_i y) : Int32.ofInt x / Int32.ofInt y = Int32.ofInt (x.tdiv y) := by
  apply nu_eqi
  rw [Int32.toInt_div, nu_ti hx, nu_ti hy, nu_ti (nu_tdi hx hp), nu_bm32 (nu_tdi hx hp)]
theorem nu_divl {x y : Int} (hx : mv_l x) (hp : 0 < y) (hy : mv_l y) : Int64.ofInt x / Int64.ofInt y = Int64.ofInt (x.tdiv y) := by
  apply nu_eql
  rw [Int64.toInt_div, nu_tl hx, nu_tl hy, nu_tl (nu_tdl hx hp), nu_bm64 (nu_tdl hx hp)]
theorem nu_rem {x y : Int} (hx : mv_i x) (hp : 0 < y) (hy : mv_i y) : Int32.ofInt x - Int32.ofInt x / Int32.ofInt y * Int32.ofInt y = Int32.ofInt (x.tmod y) := by
  rw [nu_div hx hp hy, ← Int32.ofInt_mul, ← Int32.ofInt_sub, Int.tmod_def, Int.mul_comm]
theorem nu_reml {x y : Int} (hx : mv_l x) (hp : 0 < y) (hy : mv_l y) : Int64.ofInt x - Int64.ofInt x / Int64.ofInt y * Int64.ofInt y = Int64.ofInt (x.tmod y) := by
  rw [nu_divl hx hp hy, ← Int64.ofInt_mul, ← Int64.ofInt_sub, Int.tmod_def, Int.mul_comm]
theorem nu_bv (x : Int) : (Int32.ofInt x).toBitVec = BitVec.ofInt 32 x := rfl
theorem nu_bvl (x : Int) : (Int64.ofInt x).toBitVec = BitVec.ofInt 64 x := rfl
theorem nu_bn (x : Int) : (Int32.ofInt x).toBitVec.toNat = (x % 4294967296).toNat := by
  rw [nu_bv, BitVec.toNat_ofInt]; rfl
theorem nu_bnl (x : Int) : (Int64.ofInt x).toBitVec.toNat = (x % 18446744073709551616).toNat := by
  rw [nu_bvl, BitVec.toNat_ofInt]; rfl
theorem nu_ext {a b : Int32} (h : a.toBitVec.toNat = b.toBitVec.toNat) : a = b := Int32.toBitVec_inj.mp (BitVec.eq_of_toNat_eq h)
theorem nu_extl {a b : Int64} (h : a.toBitVec.toNat = b.toBitVec.toNat) : a = b := Int64.toBitVec_inj.mp (BitVec.eq_of_toNat_eq h)
theorem nu_and1 (x : Int) : Int32.ofInt x &&& Int32.ofInt 1 = Int32.ofInt (x % 2) := by
  apply nu_ext
  rw [Int32.toBitVec_and, BitVec.toNat_and, nu_bn, nu_bn, nu_bn]
  rw [show ((1 : Int) % 4294967296).toNat = 2 ^ 1 - 1 from rfl, Nat.and_two_pow_sub_one_eq_mod]
  omega
theorem nu_and31 (x : Int) : Int32.ofInt x &&& Int32.ofInt 31 = Int32.ofInt (x % 32) := by
  apply nu_ext
  rw [Int32.toBitVec_and, BitVec.toNat_and, nu_bn, nu_bn, nu_bn]
  rw [show ((31 : Int) % 4294967296).toNat = 2 ^ 5 - 1 from rfl, Nat.and_two_pow_sub_one_eq_mod]
  omega
theorem nu_or {x y : Int} (hx : 0 ≤ x) (hy : 0 ≤ y) (h1 : mv_i x) (h2 : mv_i y) : Int32.ofInt x ||| Int32.ofInt y = Int32.ofInt ((x.toNat ||| y.toNat : Nat) : Int) := by
  apply nu_ext
  have hb : x.toNat ||| y.toNat < 2 ^ 31 := Nat.or_lt_two_pow (by have := h1.2; omega) (by have := h2.2; omega)
  rw [Int32.toBitVec_or, BitVec.toNat_or, nu_bn, nu_bn, nu_bn]
  rw [show (x % 4294967296).toNat = x.toNat by have := h1.2; omega, show (y % 4294967296).toNat = y.toNat by have := h2.2; omega]
  omega
theorem nu_xor {x y : Int} (hx : 0 ≤ x) (hy : 0 ≤ y) (h1 : mv_i x) (h2 : mv_i y) : Int32.ofInt x ^^^ Int32.ofInt y = Int32.ofInt ((x.toNat ^^^ y.toNat : Nat) : Int) := by
  apply nu_ext
  have hb : x.toNat ^^^ y.toNat < 2 ^ 31 := Nat.xor_lt_two_pow (by have := h1.2; omega) (by have := h2.2; omega)
  rw [Int32.toBitVec_xor, BitVec.toNat_xor, nu_bn, nu_bn, nu_bn]
  rw [show (x % 4294967296).toNat = x.toNat by have := h1.2; omega, show (y % 4294967296).toNat = y.toNat by have := h2.2; omega]
  omega
theorem nu_sm : ∀ n, n < 32 → ((Int32.ofInt (n : Nat) &&& 31).toBitVec.smod 32).toNat = n := by decide +kernel
theorem nu_mm (x m c : Int) : (x * c) % m = ((x % m) * c) % m := by
  rw [Int.mul_emod, Int.mul_emod (x % m) c, Int.emod_emod_of_dvd x (Int.dvd_refl m)]
theorem nu_shl {x y : Int} (h0 : 0 ≤ y) (h1 : y < 32) : Int32.ofInt x <<< (Int32.ofInt y &&& 31) = Int32.ofInt (x * 2 ^ y.toNat) := by
  apply nu_ext
  obtain ⟨k, rfl⟩ := Int.eq_ofNat_of_zero_le h0
  have hk : k < 32 := by omega
  rw [pk_shl (Int32.ofInt x) _ k (nu_sm k hk), nu_bn, nu_bn]
  rw [show ((k : Int)).toNat = k from rfl]
  have hp : ((2 : Int) ^ k) = ((2 ^ k : Nat) : Int) := (Int.natCast_pow 2 k).symm
  rw [hp]
  obtain ⟨z, hz⟩ := Int.eq_ofNat_of_zero_le (Int.emod_nonneg x (show (4294967296 : Int) ≠ 0 by decide))
  rw [nu_mm x, hz, ← Int.natCast_mul, show ((z : Int)).toNat = z from rfl]
  generalize z * 2 ^ k = w
  omega
theorem nu_shr {x y : Int} (hx : mv_i x) (h0 : 0 ≤ y) (h1 : y < 32) : Int32.ofInt x >>> (Int32.ofInt y &&& 31) = Int32.ofInt (x / 2 ^ y.toNat) := by
  apply nu_eqi
  obtain ⟨k, rfl⟩ := Int.eq_ofNat_of_zero_le h0
  have hk : k < 32 := by omega
  rw [pk_shr (Int32.ofInt x) _ k (nu_sm k hk), nu_ti hx, Int.shiftRight_eq_div_pow]
  rw [show ((k : Int)).toNat = k from rfl]
  have h2 : (0 : Int) < 2 ^ k := Int.pow_pos (by decide)
  have hb : mv_i (x / 2 ^ k) := by
    have := hx.1; have := hx.2
    constructor
    · rw [Int.le_ediv_iff_mul_le h2]
      have : (1 : Int) ≤ 2 ^ k := by omega
      have h3 : (-2147483648 : Int) * 2 ^ k ≤ -2147483648 * 1 := Int.mul_le_mul_of_nonpos_left (by decide) this
      omega
    · have h3 : x / 2 ^ k ≤ 2147483647 := by
        rcases Int.le_total 0 x with hh | hh
        · exact Int.le_trans (Int.ediv_le_self _ hh) hx.2
        · have : x / 2 ^ k ≤ 0 := Int.ediv_le_of_le_mul h2 (by omega)
          omega
      exact h3
  rw [nu_ti hb]
  norm_cast
theorem nu_landm (x : Int) : Int64.ofInt x &&& Int64.ofInt 4294967295 = Int64.ofInt (x % 4294967296) := by
  apply nu_extl
  rw [Int64.toBitVec_and, BitVec.toNat_and, nu_bnl, nu_bnl, nu_bnl]
  rw [show ((4294967295 : Int) % 18446744073709551616).toNat = 2 ^ 32 - 1 from rfl, Nat.and_two_pow_sub_one_eq_mod]
  omega
theorem nu_lor {x y : Int} (hx : x % 4294967296 = 0) (hy : 0 ≤ y) (h : y < 4294967296) : Int64.ofInt x ||| Int64.ofInt y = Int64.ofInt (x + y) := by
  apply nu_extl
  rw [Int64.toBitVec_or, BitVec.toNat_or, nu_bnl, nu_bnl, nu_bnl]
  obtain ⟨a, ha⟩ : ∃ a : Nat, (x % 18446744073709551616).toNat = 2 ^ 32 * a := ⟨(x % 18446744073709551616).toNat / 4294967296, by omega⟩
  have hb : (y % 18446744073709551616).toNat = y.toNat := by omega
  rw [ha, hb, ← Nat.two_pow_add_eq_or_of_lt (show y.toNat < 2 ^ 32 by omega)]
  omega
theorem nu_lN (x : Int) : Int64.ofInt x = lN (x % 18446744073709551616).toNat := by
  apply nu_extl
  rw [nu_bnl, wb_tb, BitVec.toNat_ofNat]
  omega
theorem nu_cong {x : Int} {a k : Nat} (ha : x % 18446744073709551616 = (a : Int)) : (x * 2 ^ k) % 18446744073709551616 = ((a * 2 ^ k % 18446744073709551616 : Nat) : Int) := by
  have hp : ((2 : Int) ^ k) = ((2 ^ k : Nat) : Int) := (Int.natCast_pow 2 k).symm
  rw [hp, nu_mm x, ha, ← Int.natCast_mul]
  generalize a * 2 ^ k = w
  omega
theorem nu_lshl {x y : Int} (h0 : 0 ≤ y) (h1 : y < 64) : Int64.ofInt x <<< ((Int32.ofInt y).toInt64 &&& 63) = Int64.ofInt (x * 2 ^ y.toNat) := by
  obtain ⟨k, rfl⟩ := Int.eq_ofNat_of_zero_le h0
  have hk : k < 64 := by omega
  obtain ⟨a, ha⟩ := Int.eq_ofNat_of_zero_le (Int.emod_nonneg x (show (18446744073709551616 : Int) ≠ 0 by decide))
  rw [nu_lN x, nu_nI, wb_shl _ hk, nu_lN, show ((k : Int)).toNat = k from rfl, nu_cong ha, ha, wb_mod]
  rfl
theorem nu_lushr {x y : Int} (h0 : 0 < y) (h1 : y < 64) : ((Int64.ofInt x).toUInt64 >>> ((Int32.ofInt y).toInt64.toUInt64 &&& Int64.toUInt64 63)).toInt64 = Int64.ofInt (x % 18446744073709551616 / 2 ^ y.toNat) := by
  obtain ⟨k, rfl⟩ := Int.eq_ofNat_of_zero_le (Int.le_of_lt h0)
  have hk : k < 64 := by omega
  obtain ⟨a, ha⟩ := Int.eq_ofNat_of_zero_le (Int.emod_nonneg x (show (18446744073709551616 : Int) ≠ 0 by decide))
  have hl : a < 2 ^ 64 := by omega
  rw [nu_lN x, nu_nI, ha, show ((a : Int)).toNat = a from rfl, wb_shr hl hk, show ((k : Int)).toNat = k from rfl]
  have hp : ((2 : Int) ^ k) = ((2 ^ k : Nat) : Int) := (Int.natCast_pow 2 k).symm
  rw [hp]
  rfl
theorem nu_i2l {x : Int} (h : mv_i x) : (Int32.ofInt x).toInt64 = Int64.ofInt x := by
  apply nu_eql
  rw [Int32.toInt_toInt64, nu_ti h, nu_tl ⟨by have := h.1; omega, by have := h.2; omega⟩]
theorem nu_l2i (x : Int) : (Int64.ofInt x).toInt32 = Int32.ofInt x := by
  apply nu_eqi
  rw [Int64.toInt_toInt32, Int64.toInt_ofInt, Int32.toInt_ofInt]
  exact Int.bmod_bmod_of_dvd (by decide)
theorem nu_i2c {x : Int} (h0 : 0 ≤ x) (h1 : x < 65536) : ((Int32.ofInt x).toUInt32 % 65536).toInt32 = Int32.ofInt x := by
  obtain ⟨k, rfl⟩ := Int.eq_ofNat_of_zero_le h0
  have h := pk_char (Int32.ofInt (k : Int))
  rw [h, nu_bn]
  rw [show (((k : Int) % 4294967296).toNat % 65536) = k by omega]
  rfl
theorem nu_narc {x : Int} (h0 : 0 ≤ x) (h1 : x < 65536) : vp_nar .char (Int32.ofInt x) = Int32.ofInt x := by
  rw [vp_nar_char]; exact nu_i2c h0 h1
theorem nu_cl {i : Int} (h0 : 0 ≤ i) (h1 : i < 2147483648) : (Int32.ofInt i).toNatClampNeg = i.toNat := by
  obtain ⟨k, rfl⟩ := Int.eq_ofNat_of_zero_le h0
  rw [nu_nI, nI_clamp (by omega)]; rfl
theorem nu_in {i : Int} {N : Nat} (h0 : 0 ≤ i) (h1 : i < N) (hN : N < 2147483648) : vp_in (Int32.ofInt i) N := by
  obtain ⟨k, rfl⟩ := Int.eq_ofNat_of_zero_le h0
  rw [nu_nI]
  exact vp_in_nI (by omega) (by omega)
end
section
/-! what the real machine's frame, heap and tables are to the small machine's -/
def mv_rv (ι : Int → Nat) (n bs : Nat) (v : mv_V) (x : Value) : Prop := match v with
  | (0, z) => x = .int (Int32.ofInt z)
  | (1, z) => x = .long (Int64.ofInt z)
  | (2, a) => 0 ≤ a ∧ a < n ∧ x = .ref (ι a)
  | (3, _) => ∃ q, x = .ref q
  | (4, _) => x = .ref bs
  | _ => False
def mv_rs (ι : Int → Nat) (n bs : Nat) : List mv_V → List Value → Prop
  | [], [] => True
  | v :: r, x :: q => mv_rv ι n bs v x ∧ mv_rs ι n bs r q
  | [], _ :: _ => False
  | _ :: _, [] => False
def mv_rl (ι : Int → Nat) (n bs : Nat) (ls : List mv_V) (nL : Nat) (lsr : Array Slot) : Prop :=
  ls.length = nL ∧ ∃ lv : List (Nat × Value), lv_has lsr nL lv ∧ ∀ (i : Nat) (v : mv_V), ls[i]? = some v → v.1 ≠ 5 → ∃ x, (i, x) ∈ lv ∧ mv_rv ι n bs v x
def mv_rf (ι : Int → Nat) (n ty : Nat) (z : Int) (v : Value) : Prop := if ty = 0 then v = .int (Int32.ofInt z) else ((0 ≤ z ∧ z < n ∧ v = .ref (ι z)) ∨ (z < 0 ∧ v = .null))
def mv_kt (k : Nat) : FieldType := match k with
  | 10 => .int
  | 11 => .char
  | 12 => .boolean
  | 13 => .long
  | 14 => .object "LineTemplates$Line"
  | _ => .object "LineTemplates$State"
def mv_rc0 (ι : Int → Nat) (n k N : Nat) (f : Int → Int) (x : vp_A) : Prop :=
  x.1 = N ∧ ((k < 13 ∧ ∃ g : Nat → Int32, x.2 = .inl g ∧ ∀ j : Nat, j < N → g j = Int32.ofInt (f j)) ∨
  (k = 13 ∧ ∃ g : Nat → Int64, x.2 = .inr (.inl g) ∧ ∀ j : Nat, j < N → g j = Int64.ofInt (f j)) ∨
  (13 < k ∧ ∃ g : Nat → Option Nat, x.2 = .inr (.inr (.inr (.inr g))) ∧ ∀ j : Nat, j < N → (0 ≤ f j ∧ f j < n ∧ g j = some (ι (f j))) ∨ (f j < 0 ∧ g j = none)))
def mv_ro (s : State) (ι : Int → Nat) (n : Nat) (o : mv_O) (e : va_E) : Prop :=
  (o.1 < 5 ∧ ∃ fs : List Value, e = .inr (o.1, fs) ∧ fs.length = mv_fn o.1 ∧ ∀ k : Nat, k < mv_fn o.1 → ∃ v, fs[k]? = some v ∧ mv_rf ι n (mv_ft o.1 k) (o.2.2 k) v) ∨
  (10 ≤ o.1 ∧ o.1 ≤ 15 ∧ ∃ (cA : ClassId) (N : Nat) (x : vp_A), e = .inl (cA, x) ∧ o.2.1 = N ∧ N ≤ 100000 ∧ ArrOfT s cA (mv_kt o.1) ∧ va_RA s cA (mv_kt o.1) ∧ mv_rc0 ι n o.1 N o.2.2 x)
def mv_w (s : State) (ι : Int → Nat) (n : Nat) (h : mv_H) (ws : va_W) : Prop :=
  ws.length = n ∧ ∀ i : Nat, i < n → ∃ e, ws[i]? = some (ι i, e) ∧ mv_ro s ι n (h i) e
def mv_A (base : Nat) : Nat → Prop := fun q => base ≤ q
def mv_G : List Cond := lw_tbl.filter goodWord
def mv_nw (w : Cond) : Bool := match w with
  | .methodLinkNest _ _ _ _ => true
  | .fieldLinkNest _ _ _ _ _ _ => true
  | .declares _ => true
  | .castable _ _ => true
  | _ => false
def mv_str : List (Nat × String) := [(60, "no character code"), (67, "the text is full"), (101, "no such number of the log"), (126, "no such number of a line"), (128, "the index is negative"), (158, "no such number of a template"), (174, "no such number of a piece"), (179, "the text is not a line"), (184, "there is no room for the line"), (204, "the piece is no fixed word"), (214, "the lines need too many templates"), (222, "no state is remembered"), (238, "no value of a number"), (243, "no such number of commands"), (251, "the script has not the digits of its commands"), (259, "no such number of lines"), (273, "nothing has been saved in the slot"), (280, "no such line"), (283, "no such template"), (285, "no such piece"), (287, "no such save slot")]
def mv_xns : List String := ["java/lang/RuntimeException", "java/lang/Exception"]
/-- what holds of the tables, the script and the JDK's statics at every frame -/
def mv_Fx (D : va_G) (bs base L : Nat) (xs : Nat → Int32) (s : State) : Prop :=
  (∀ w ∈ mv_G, ∀ a : Array Value, w.before a s = true) ∧ (∀ w ∈ lw_tbl, mv_nw w = true → va_Nw w s) ∧ va_K D mv_cl [] s ∧ (base ≤ s.heap.size ∧ bs < base ∧ va_X bs L xs s s.heap) ∧
  (vx_Zq Bundle.tN "UNASSIGNED_STACK" Bundle.steD (mv_A base) s s.heap ∧ vx_Zq Bundle.tN "SUPPRESSED_SENTINEL" Bundle.listD (mv_A base) s s.heap) ∧
  (∀ q ∈ mv_str, ∃ a, vk_R "LineTemplates" q.1 q.2 a s) ∧ (∀ i j : Nat, i < 3 → j < 3 → i ≠ j → va_Nc (mv_xn i) (mv_xn j) s) ∧ (va_AO "LineTemplates$Line" s ∧ va_AO "LineTemplates$State" s)
theorem mv_Fx.moved {D : va_G} {bs base L : Nat} {xs : Nat → Int32} {s U : State} {locs : List Loc} (h : mv_Fx D bs base L xs s) (hW : s.WarmedH U.vm) (hS : va_S (mv_A base) s.heap U.heap locs) : mv_Fx D bs base L xs U := by
  obtain ⟨h1, h2, h3, ⟨h4, h5, h6⟩, ⟨h7, h8⟩, h9, h10, h11, h12⟩ := h
  have hb : ¬ mv_A base bs := Nat.not_le.mpr h5
  have hbs : bs < s.heap.size := Nat.lt_of_lt_of_le h5 h4
  refine ⟨fun w hw a => ?_, fun w hw hn => ?_, va_K.moved hW.alike h3, ⟨Nat.le_trans h4 hS.1, h5, va_X.moved hW.alike (h6.kept (hS.2.1 bs hbs hb))⟩, ⟨vx_Zq.moved hW.alike (h7.kept hS.2.1), vx_Zq.moved hW.alike (h8.kept hS.2.1)⟩, fun q hq => ?_, fun i j hi hj hij => va_Nc.moved hW.alike (h10 i j hi hj hij), ?_, ?_⟩
  · exact word_at hW (good_of_word (List.mem_filter.mp hw).2) (h1 w hw a)
  · have hz := h2 w hw hn
    cases w <;> simp only [mv_nw] at hn <;> first | (cases hn; done) | exact va_Nw.warmM hW hz | exact va_Nw.warmF hW hz | exact va_Nw.warmD hW hz | exact va_Nw.warmC hW hz
  · obtain ⟨a, ha⟩ := h9 q hq
    exact ⟨a, vk_R.warm hW ha⟩
  · exact va_AO.moved hW.alike h11
  · exact va_AO.moved hW.alike h12
def mv_Cx (p : Program) (l : Launch) (m : MethodId) (args : Array Value) (meth : Method) (cd : Code) (y : Nat) (D : va_G) (bs base L : Nat) (xs : Nat → Int32) (s : State) : Prop :=
  p.tables.exec = Jvm.exec ∧ cd.code = mv_by y ∧ cd.maxLocals = (mv_m y).2.2.1 ∧ meth.sig.returnType = mv_rt y ∧ meth.locks = false ∧ s.vm.findClass (mv_ow y) = some m.cls ∧ ((mv_y y).name = "<init>" → meth.name = "<init>") ∧
  (cd.exceptionTable.toList = tableOf (mv_hh y)) ∧ l.stackTraces = false ∧ mv_Fx D bs base L xs s
/-- the frame and the heap of the one and of the other -/
def mv_Rl (D : va_G) (s : State) (bs base : Nat) (ι : Int → Nat) (n : Nat) (h : mv_H) (H : Heap) (locs : List Loc) (nL : Nat) (lsr : Array Slot) (str : List Value) (ls st : List mv_V) : Prop :=
  ∃ ws : va_W, va_P D mv_cl ws H ∧ va_D (mv_A base) ws ∧ va_S (mv_A base) s.heap H locs ∧ mv_w s ι n h ws ∧ mv_rl ι n bs ls nL lsr ∧ mv_rs ι n bs st str
theorem mv_rs_c {ι : Int → Nat} {n bs : Nat} {v : mv_V} {r : List mv_V} {str : List Value} (h : mv_rs ι n bs (v :: r) str) : ∃ x q, str = x :: q ∧ mv_rv ι n bs v x ∧ mv_rs ι n bs r q := by
  cases str with
  | nil => exact h.elim
  | cons x q => exact ⟨x, q, rfl, h.1, h.2⟩
theorem mv_rs_n {ι : Int → Nat} {n bs : Nat} {str : List Value} (h : mv_rs ι n bs [] str) : str = [] := by
  cases str with
  | nil => rfl
  | cons x q => exact h.elim
theorem mv_rs_i {ι : Int → Nat} {n bs : Nat} {z : Int} {r : List mv_V} {str : List Value} (h : mv_rs ι n bs ((0, z) :: r) str) : ∃ q, str = .int (Int32.ofInt z) :: q ∧ mv_rs ι n bs r q := by
  obtain ⟨x, q, rfl, h1, h2⟩ := mv_rs_c h
  cases h1
  exact ⟨q, rfl, h2⟩
theorem mv_rs_j {ι : Int → Nat} {n bs : Nat} {z : Int} {r : List mv_V} {str : List Value} (h : mv_rs ι n bs ((1, z) :: r) str) : ∃ q, str = .long (Int64.ofInt z) :: q ∧ mv_rs ι n bs r q := by
  obtain ⟨x, q, rfl, h1, h2⟩ := mv_rs_c h
  cases h1
  exact ⟨q, rfl, h2⟩
theorem mv_rs_r {ι : Int → Nat} {n bs : Nat} {z : Int} {r : List mv_V} {str : List Value} (h : mv_rs ι n bs ((2, z) :: r) str) : ∃ q, str = .ref (ι z) :: q ∧ 0 ≤ z ∧ z < n ∧ mv_rs ι n bs r q := by
  obtain ⟨x, q, rfl, h1, h2⟩ := mv_rs_c h
  obtain ⟨h3, h4, rfl⟩ := h1
  exact ⟨q, rfl, h3, h4, h2⟩
theorem mv_rs_s {ι : Int → Nat} {n bs : Nat} {z : Int} {r : List mv_V} {str : List Value} (h : mv_rs ι n bs ((4, z) :: r) str) : ∃ q, str = .ref bs :: q ∧ mv_rs ι n bs r q := by
  obtain ⟨x, q, rfl, h1, h2⟩ := mv_rs_c h
  cases h1
  exact ⟨q, rfl, h2⟩
theorem mv_rv_cat {ι : Int → Nat} {n bs : Nat} {v : mv_V} {x : Value} (h : mv_rv ι n bs v x) (h1 : v.1 ≠ 1) : x.category = 1 := by
  obtain ⟨t, z⟩ := v
  match t, h, h1 with
  | 0, h, _ => cases h; rfl
  | 1, _, h1 => exact absurd rfl h1
  | 2, h, _ => obtain ⟨-, -, rfl⟩ := h; rfl
  | 3, h, _ => obtain ⟨q, rfl⟩ := h; rfl
  | 4, h, _ => cases h; rfl
  | t + 5, h, _ => exact h.elim
theorem mv_rv_ref {ι : Int → Nat} {n bs : Nat} {v : mv_V} {x : Value} (h : mv_rv ι n bs v x) (h1 : v.1 = 2 ∨ v.1 = 3 ∨ v.1 = 4) : ∃ q, x = .ref q := by
  obtain ⟨t, z⟩ := v
  match t, h, h1 with
  | 0, _, h1 => simp at h1
  | 1, _, h1 => simp at h1
  | 2, h, _ => obtain ⟨-, -, rfl⟩ := h; exact ⟨_, rfl⟩
  | 3, h, _ => exact h
  | 4, h, _ => exact ⟨_, h⟩
  | t + 5, h, _ => exact h.elim
theorem mv_rv_up {ι ι' : Int → Nat} {n n' bs : Nat} {v : mv_V} {x : Value} (hi : ∀ i : Int, 0 ≤ i → i < n → ι' i = ι i) (hn : n ≤ n') (h : mv_rv ι n bs v x) : mv_rv ι' n' bs v x := by
  obtain ⟨t, z⟩ := v
  match t, h with
  | 0, h => exact h
  | 1, h => exact h
  | 2, h => obtain ⟨h1, h2, h3⟩ := h; exact ⟨h1, by omega, by rw [hi z h1 h2]; exact h3⟩
  | 3, h => exact h
  | 4, h => exact h
  | t + 5, h => exact h.elim
theorem mv_rs_up {ι ι' : Int → Nat} {n n' bs : Nat} (hi : ∀ i : Int, 0 ≤ i → i < n → ι' i = ι i) (hn : n ≤ n') : ∀ (st : List mv_V) (str : List Value), mv_rs ι n bs st str → mv_rs ι' n' bs st str
  | [], [], _ => trivial
  | v :: r, x :: q, h => ⟨mv_rv_up hi hn h.1, mv_rs_up hi hn r q h.2⟩
  | [], _ :: _, h => h.elim
  | _ :: _, [], h => h.elim
theorem mv_rl_up {ι ι' : Int → Nat} {n n' bs : Nat} (hi : ∀ i : Int, 0 ≤ i → i < n → ι' i = ι i) (hn : n ≤ n') {ls : List mv_V} {nL : Nat} {lsr : Array Slot} (h : mv_rl ι n bs ls nL lsr) : mv_rl ι' n' bs ls nL lsr := by
  obtain ⟨h1, lv, h2, h3⟩ := h
  exact ⟨h1, lv, h2, fun i v hv h5 => by obtain ⟨x, hx, hr⟩ := h3 i v hv h5; exact ⟨x, hx, mv_rv_up hi hn hr⟩⟩
theorem mv_rf_up {ι ι' : Int → Nat} {n n' ty : Nat} (hi : ∀ i : Int, 0 ≤ i → i < n → ι' i = ι i) (hn : n ≤ n') {z : Int} {v : Value} (h : mv_rf ι n ty z v) : mv_rf ι' n' ty z v := by
  unfold mv_rf at *
  split at h
  · rw [if_pos ‹_›]; exact h
  · rw [if_neg ‹_›]
    rcases h with ⟨h1, h2, h3⟩ | h
    · exact Or.inl ⟨h1, by omega, by rw [hi z h1 h2]; exact h3⟩
    · exact Or.inr h
theorem mv_ro_up {s : State} {ι ι' : Int → Nat} {n n' : Nat} (hi : ∀ i : Int, 0 ≤ i → i < n → ι' i = ι i) (hn : n ≤ n') {o : mv_O} {e : va_E} (h : mv_ro s ι n o e) : mv_ro s ι' n' o e := by
  rcases h with ⟨h1, fs, h2, h3, h4⟩ | ⟨h1, h2, cA, N, x, h3, h4, h5, h6, h7, h8, h9⟩
  · exact Or.inl ⟨h1, fs, h2, h3, fun k hk => by obtain ⟨v, hv, hf⟩ := h4 k hk; exact ⟨v, hv, mv_rf_up hi hn hf⟩⟩
  · refine Or.inr ⟨h1, h2, cA, N, x, h3, h4, h5, h6, h7, h8, ?_⟩
    rcases h9 with h9 | h9 | ⟨hk, g, hg, h9⟩
    · exact Or.inl h9
    · exact Or.inr (Or.inl h9)
    · refine Or.inr (Or.inr ⟨hk, g, hg, fun j hj => ?_⟩)
      rcases h9 j hj with ⟨a1, a2, a3⟩ | h
      · exact Or.inl ⟨a1, by omega, by rw [hi _ a1 a2]; exact a3⟩
      · exact Or.inr h
theorem mv_ro_mv {s U : State} (hvm : s.vm.Alike U.vm) {ι : Int → Nat} {n : Nat} {o : mv_O} {e : va_E} (h : mv_ro s ι n o e) : mv_ro U ι n o e := by
  rcases h with h | ⟨h1, h2, cA, N, x, h3, h4, h5, h6, h7, h8⟩
  · exact Or.inl h
  · exact Or.inr ⟨h1, h2, cA, N, x, h3, h4, h5, arrOfT_moved hvm h6, h7.moved hvm, h8⟩
theorem mv_w_mv {s U : State} (hvm : s.vm.Alike U.vm) {ι : Int → Nat} {n : Nat} {h : mv_H} {ws : va_W} (hw : mv_w s ι n h ws) : mv_w U ι n h ws :=
  ⟨hw.1, fun i hi => by obtain ⟨e, h1, h2⟩ := hw.2 i hi; exact ⟨e, h1, mv_ro_mv hvm h2⟩⟩
/-- an object of the small heap in the world -/
theorem mv_w_at {s : State} {ι : Int → Nat} {n : Nat} {h : mv_H} {ws : va_W} (hw : mv_w s ι n h ws) {a : Int} (h0 : 0 ≤ a) (h1 : a < n) : ∃ e, ws[a.toNat]? = some (ι a, e) ∧ mv_ro s ι n (h a) e := by
  obtain ⟨e, h2, h3⟩ := hw.2 a.toNat (by omega)
  rw [Int.toNat_of_nonneg h0] at h2 h3
  exact ⟨e, h2, h3⟩
/-- one object written -/
theorem mv_w_set {s : State} {ι : Int → Nat} {n : Nat} {h : mv_H} {ws : va_W} (hw : mv_w s ι n h ws) {a : Int} (h0 : 0 ≤ a) (h1 : a < n) {o : mv_O} {e : va_E} (hr : mv_ro s ι n o e) : mv_w s ι n (mv_uo h a o) (ws.set a.toNat (ι a, e)) := by
  refine ⟨by rw [List.length_set]; exact hw.1, fun i hi => ?_⟩
  by_cases hia : i = a.toNat
  · subst hia
    refine ⟨e, ?_, ?_⟩
    · rw [List.getElem?_set_self (by rw [hw.1]; exact hi), Int.toNat_of_nonneg h0]
    · rw [Int.toNat_of_nonneg h0]; unfold mv_uo; rw [if_pos rfl]; exact hr
  · obtain ⟨e1, h2, h3⟩ := hw.2 i hi
    refine ⟨e1, ?_, ?_⟩
    · rw [List.getElem?_set_ne (fun hx => hia hx.symm)]; exact h2
    · unfold mv_uo; rw [if_neg (by omega)]; exact h3
/-- one object made -/
theorem mv_w_push {s : State} {ι : Int → Nat} {n : Nat} {h : mv_H} {ws : va_W} (hw : mv_w s ι n h ws) {q : Nat} {o : mv_O} {e : va_E} (hr : mv_ro s (fun i => if i = n then q else ι i) (n + 1) o e) :
    mv_w s (fun i => if i = n then q else ι i) (n + 1) (mv_uo h n o) (ws ++ [(q, e)]) := by
  refine ⟨by rw [List.length_append, hw.1]; rfl, fun i hi => ?_⟩
  by_cases hin : i = n
  · subst hin
    refine ⟨e, ?_, ?_⟩
    · rw [List.getElem?_append_right (by rw [hw.1]; exact Nat.le_refl _), hw.1, Nat.sub_self]; show some (q, e) = some (if (i : Int) = i then q else ι i, e); rw [if_pos rfl]
    · unfold mv_uo; rw [if_pos rfl]; exact hr
  · obtain ⟨e1, h2, h3⟩ := hw.2 i (by omega)
    refine ⟨e1, ?_, ?_⟩
    · rw [List.getElem?_append_left (by rw [hw.1]; omega)]; show ws[i]? = some (if (i : Int) = n then q else ι i, e1); rw [if_neg (by omega)]; exact h2
    · unfold mv_uo; rw [if_neg (by omega)]
      exact mv_ro_up (fun j _ hj => if_neg (by omega)) (by omega) h3
theorem mv_dec {y pc : Nat} {i : Instr} {a : Int} (hg : mv_get (mv_m y).1 pc = some (i, a)) : decode (mv_by y) pc = .ok (i, mv_len i a) := by
  have hd : mv_dk (mv_by y) (mv_m y).1 = true := by
    by_cases hy : y < 206
    · exact mv_dkA y hy
    · have : (mv_m y).1 = [] := by
        unfold mv_m
        rw [List.getD_eq_getElem?_getD, List.getElem?_eq_none (Nat.not_lt.mp hy)]; rfl
      rw [this]; rfl
  generalize (mv_m y).1 = k at hg hd
  induction k with
  | nil => cases hg
  | cons q k ih =>
    obtain ⟨q0, i0, a0⟩ := q
    simp only [mv_dk, List.all_cons, Bool.and_eq_true] at hd
    unfold mv_get at hg
    cases hb : Nat.beq q0 pc with
    | true =>
      rw [hb] at hg
      cases hg
      have := Nat.eq_of_beq_eq_true hb
      subst this
      exact of_decide_eq_true hd.1
    | false =>
      rw [hb] at hg
      exact ih hg hd.2
theorem mv_pool {y pc : Nat} {i : Instr} {a : Int} (hg : mv_get (mv_m y).1 pc = some (i, a)) : ∃ pl, mv_pk y i a pl = true := by
  by_cases hy : y < 206
  · have h0 := List.all_eq_true.mp mv_pk0 y (List.mem_range.mpr hy)
    generalize (mv_m y).1 = k at hg h0
    generalize mv_pp.getD y [] = r at h0
    induction k generalizing r with
    | nil => cases hg
    | cons q k ih =>
      obtain ⟨q0, i0, a0⟩ := q
      cases r with
      | nil => cases h0
      | cons pl r =>
        simp only [mv_pz, Bool.and_eq_true] at h0
        unfold mv_get at hg
        cases hb : Nat.beq q0 pc with
        | true =>
          rw [hb] at hg
          cases hg
          exact ⟨pl, h0.1⟩
        | false =>
          rw [hb] at hg
          exact ih hg r h0.2
  · have : (mv_m y).1 = [] := by
      unfold mv_m
      rw [List.getD_eq_getElem?_getD, List.getElem?_eq_none (Nat.not_lt.mp hy)]; rfl
    rw [this] at hg
    cases hg
theorem mv_at_in {w : Cond} {p : Nat} (h : mv_at w p = true) : w ∈ lw_tbl := List.mem_of_getElem? (of_decide_eq_true h)
theorem mv_G_in {w : Cond} (h : w ∈ lw_tbl) (hg : goodWord w = true) : w ∈ mv_G := List.mem_filter.mpr ⟨h, hg⟩
end
section
theorem nu_z : (0 : Int32) = Int32.ofInt 0 := rfl
theorem nu_z0 : mv_i 0 := ⟨by decide, by decide⟩
theorem nu_eq0 {x : Int} (hx : mv_i x) : Int32.ofInt x = 0 ↔ x = 0 := by rw [nu_z, nu_eq hx nu_z0]
theorem nu_ne0 {x : Int} (hx : mv_i x) : ¬ Int32.ofInt x = 0 ↔ ¬ x = 0 := not_congr (nu_eq0 hx)
theorem nu_lt0 {x : Int} (hx : mv_i x) : Int32.ofInt x < 0 ↔ x < 0 := by rw [nu_z, nu_lt hx nu_z0]
theorem nu_ge0 {x : Int} (hx : mv_i x) : 0 ≤ Int32.ofInt x ↔ 0 ≤ x := by rw [nu_z, nu_le nu_z0 hx]
theorem nu_gt0 {x : Int} (hx : mv_i x) : 0 < Int32.ofInt x ↔ 0 < x := by rw [nu_z, nu_lt nu_z0 hx]
theorem nu_le0 {x : Int} (hx : mv_i x) : Int32.ofInt x ≤ 0 ↔ x ≤ 0 := by rw [nu_z, nu_le hx nu_z0]
theorem nu_b8 {k : Int} (h0 : -128 ≤ k) (h1 : k < 128) : (Int8.ofInt k).toInt32 = Int32.ofInt k := by
  apply nu_eqi
  rw [Int8.toInt_toInt32, Int8.toInt_ofInt_of_le (by omega) (by omega), nu_ti ⟨by omega, by omega⟩]
theorem nu_b16 {k : Int} (h0 : -32768 ≤ k) (h1 : k < 32768) : (Int16.ofInt k).toInt32 = Int32.ofInt k := by
  apply nu_eqi
  rw [Int16.toInt_toInt32, Int16.toInt_ofInt_of_le (by omega) (by omega), nu_ti ⟨by omega, by omega⟩]
theorem nu_and {x y : Int} (h : y = 1 ∨ y = 31) : Int32.ofInt x &&& Int32.ofInt y = Int32.ofInt (x % (y + 1)) := by
  rcases h with rfl | rfl
  · exact nu_and1 x
  · exact nu_and31 x
theorem nu_lcmp {x y : Int} (hx : mv_l x) (hy : mv_l y) : lg_cmp (Int64.ofInt x) (Int64.ofInt y) = Int32.ofInt (mv_cL x y) := by
  unfold lg_cmp mv_cL
  by_cases h1 : x < y
  · rw [if_neg (by rw [gt_iff_lt, nu_lL hy hx]; omega), if_neg (by rw [nu_eL hx hy]; omega), if_pos h1]; rfl
  · by_cases h2 : x = y
    · rw [if_neg (by rw [gt_iff_lt, nu_lL hy hx]; omega), if_pos (by rw [nu_eL hx hy]; omega), if_neg h1, if_pos h2]; rfl
    · rw [if_pos (by rw [gt_iff_lt, nu_lL hy hx]; omega), if_neg h1, if_neg h2]; rfl
/-! one instruction: the real machine follows -/
section STP
variable {p : Program} {l : Launch} {e : Env} {R : Room} {s : State} {m : MethodId} {args : Array Value} {below : List Frame} {meth : Method} {cd : Code} {H : Heap} {locs : List Loc} {cells slots : Nat} {Q : State → Prop}
variable {y pc : Nat} {D : va_G} {bs base L : Nat} {xs : Nat → Int32} {ι : Int → Nat} {n : Nat} {h : mv_H} {lsr : Array Slot} {str : List Value} {ls st : List mv_V} {i : Instr} {a : Int}
theorem mv_rl_at {nL : Nat} (hl : mv_rl ι n bs ls nL lsr) {k : Nat} {v : mv_V} (hv : ls[k]? = some v) (h5 : v.1 ≠ 5) : ∃ x, lsr[k]? = some (.val x) ∧ mv_rv ι n bs v x := by
  obtain ⟨h1, lv, h2, h3⟩ := hl
  obtain ⟨x, hx, hr⟩ := h3 k v hv h5
  exact ⟨x, h2.2.2 (k, x) hx, hr⟩
theorem mv_s1_spec {k : Nat} {v : mv_V} {l1 : List mv_V} (h1 : mv_s1 ls k v = some l1) : k < ls.length ∧ l1 = ls.set k v ∧ ∀ w : mv_V, ls[k - 1]? = some w → 0 < k → w.1 ≠ 1 := by
  unfold mv_s1 at h1
  split at h1
  · split at h1
    · cases h1
    · cases h1
      refine ⟨‹_›, rfl, fun w hw h0 h2 => ?_⟩
      rename_i hn
      exact hn ⟨h0, by rw [List.getD_eq_getElem?_getD, hw]; exact h2⟩
  · cases h1
theorem mv_s2_spec {k : Nat} {v : mv_V} {l1 : List mv_V} (h1 : mv_s2 ls k v = some l1) : k + 1 < ls.length ∧ l1 = (ls.set k v).set (k + 1) (5, 0) ∧ ∀ w : mv_V, ls[k - 1]? = some w → 0 < k → w.1 ≠ 1 := by
  unfold mv_s2 at h1
  split at h1
  · split at h1
    · cases h1
    · cases h1
      refine ⟨‹_›, rfl, fun w hw h0 h2 => ?_⟩
      rename_i hn
      exact hn ⟨h0, by rw [List.getD_eq_getElem?_getD, hw]; exact h2⟩
  · cases h1
/-- the locals after a store of one word -/
theorem mv_st1 {nL : Nat} {k : Nat} {v : mv_V} {x : Value} {l1 : List mv_V} {lv : List (Nat × Value)} {lsr1 : Array Slot} (hl : ls.length = nL) (hv : ∀ (i : Nat) (v : mv_V), ls[i]? = some v → v.1 ≠ 5 → ∃ x, (i, x) ∈ lv ∧ mv_rv ι n bs v x) (hs : mv_s1 ls k v = some l1) (hx : mv_rv ι n bs v x)
    (hh : lv_has lsr1 nL ((k, x) :: lv.filter (fun q => !(q.1 == k) && !(q.1 + 1 == k && q.2.category == 2)))) : mv_rl ι n bs l1 nL lsr1 := by
  obtain ⟨h1, rfl, h3⟩ := mv_s1_spec hs
  refine ⟨by rw [List.length_set]; exact hl, _, hh, fun j w hw h5 => ?_⟩
  by_cases hj : j = k
  · subst hj
    rw [List.getElem?_set_self h1] at hw
    cases hw
    exact ⟨x, List.mem_cons_self, hx⟩
  · rw [List.getElem?_set_ne (fun z => hj z.symm)] at hw
    obtain ⟨x1, m1, r1⟩ := hv j w hw h5
    refine ⟨x1, List.mem_cons_of_mem _ (List.mem_filter.mpr ⟨m1, ?_⟩), r1⟩
    simp only [Bool.and_eq_true, Bool.not_eq_true', Bool.and_eq_false_iff, beq_eq_false_iff_ne, ne_eq]
    refine ⟨hj, ?_⟩
    by_cases hjk : j + 1 = k
    · right
      have hw1 : w.1 ≠ 1 := h3 w (by rw [← hjk]; exact hw) (by omega)
      rw [mv_rv_cat r1 hw1]; decide
    · exact Or.inl hjk
theorem mv_st2 {nL : Nat} {k : Nat} {v : mv_V} {x : Value} {l1 : List mv_V} {lv : List (Nat × Value)} {lsr1 : Array Slot} (hl : ls.length = nL) (hv : ∀ (i : Nat) (v : mv_V), ls[i]? = some v → v.1 ≠ 5 → ∃ x, (i, x) ∈ lv ∧ mv_rv ι n bs v x) (hs : mv_s2 ls k v = some l1) (hx : mv_rv ι n bs v x)
    (hh : lv_has lsr1 nL ((k, x) :: lv.filter (fun q => !(q.1 == k) && (!(q.1 == k + 1) && !(q.1 + 1 == k && q.2.category == 2))))) : mv_rl ι n bs l1 nL lsr1 := by
  obtain ⟨h1, rfl, h3⟩ := mv_s2_spec hs
  refine ⟨by rw [List.length_set, List.length_set]; exact hl, _, hh, fun j w hw h5 => ?_⟩
  by_cases hk1 : j = k + 1
  · subst hk1
    rw [List.getElem?_set_self (by rw [List.length_set]; exact h1)] at hw
    cases hw
    exact absurd rfl h5
  · rw [List.getElem?_set_ne (fun z => hk1 z.symm)] at hw
    by_cases hj : j = k
    · subst hj
      rw [List.getElem?_set_self (by omega)] at hw
      cases hw
      exact ⟨x, List.mem_cons_self, hx⟩
    · rw [List.getElem?_set_ne (fun z => hj z.symm)] at hw
      obtain ⟨x1, m1, r1⟩ := hv j w hw h5
      refine ⟨x1, List.mem_cons_of_mem _ (List.mem_filter.mpr ⟨m1, ?_⟩), r1⟩
      simp only [Bool.and_eq_true, Bool.not_eq_true', Bool.and_eq_false_iff, beq_eq_false_iff_ne, ne_eq]
      refine ⟨hj, hk1, ?_⟩
      by_cases hjk : j + 1 = k
      · right
        have hw1 : w.1 ≠ 1 := h3 w (by rw [← hjk]; exact hw) (by omega)
        rw [mv_rv_cat r1 hw1]; decide
      · exact Or.inl hjk
theorem mv_b2_spec {f : Int → Int → List mv_V → Option mv_S} {S : mv_S} (hf : mv_b2 st f = some S) : ∃ x y r, st = (0, y) :: (0, x) :: r ∧ f x y r = some S := by
  unfold mv_b2 at hf
  split at hf
  · exact ⟨_, _, _, rfl, hf⟩
  · cases hf
theorem mv_j2_spec {f : Int → Int → List mv_V → Option mv_S} {S : mv_S} (hf : mv_j2 st f = some S) : ∃ x y r, st = (1, y) :: (1, x) :: r ∧ f x y r = some S := by
  unfold mv_j2 at hf
  split at hf
  · exact ⟨_, _, _, rfl, hf⟩
  · cases hf
theorem mv_ld_spec {t k q : Nat} {c : mv_C} {S : mv_S} (hf : mv_ld t k q ls st c h = some S) : ∃ v, ls[k]? = some v ∧ v.1 = t ∧ S = (q, ls, v :: st, c, h) := by
  unfold mv_ld at hf
  split at hf
  · split at hf
    · cases hf; exact ⟨_, ‹_›, ‹_›, rfl⟩
    · cases hf
  · cases hf
theorem mv_jmp_spec {off : Int} {c : mv_C} {S : mv_S} (hf : mv_jmp pc off ls st c h = some S) : ∃ t : Nat, (pc : Int) + off = t ∧ S = (t, ls, st, c, h) := by
  unfold mv_jmp at hf
  split at hf
  · cases hf; exact ⟨_, (Int.toNat_of_nonneg ‹_›).symm, rfl⟩
  · cases hf
theorem mv_v0 {v : mv_V} (h0 : v.1 = 0) : v = (0, v.2) := by obtain ⟨t, z⟩ := v; cases h0; rfl
theorem mv_v1 {v : mv_V} (h0 : v.1 = 1) : v = (1, v.2) := by obtain ⟨t, z⟩ := v; cases h0; rfl
theorem mv_v2 {v : mv_V} (h0 : v.1 = 2) : v = (2, v.2) := by obtain ⟨t, z⟩ := v; cases h0; rfl

theorem mv_w_iconst {c c' : mv_C} {h' : mv_H} {pc' : Nat} {ls' st' : List mv_V} {k : Int} (X : mv_Cx p l m args meth cd y D bs base L xs s) (hg : mv_get (mv_m y).1 pc = some (.iconst k, a)) (hs : mv_step ((L : Int), fun j => (xs j.toNat).toInt) pc (.iconst k) a ls st c h = some (pc', ls', st', c', h'))
    (rel : mv_Rl D s bs base ι c.1 h H locs (mv_m y).2.2.1 lsr str ls st) (hcs : cells + (c'.2.1 - c.2.1) ≤ R.cells) (hss : slots + (c'.2.2 - c.2.2) ≤ R.slots)
    (K : ∀ (H1 : Heap) (locs1 : List Loc) (ι1 : Int → Nat) (lsr1 : Array Slot) (str1 : List Value), mv_Rl D s bs base ι1 c'.1 h' H1 locs1 (mv_m y).2.2.1 lsr1 str1 ls' st' → (∀ j : Int, 0 ≤ j → j < c.1 → ι1 j = ι j) → W p l e R s m args below meth cd H1 locs1 (cells + (c'.2.1 - c.2.1)) (slots + (c'.2.2 - c.2.2)) Q (F0 m pc' lsr1 str1)) : W p l e R s m args below meth cd H locs cells slots Q (F0 m pc lsr str) := by
  obtain ⟨hx, hb, hml, hret, hlk, hown, hnm, hxt, hst0, hF⟩ := id X
  obtain ⟨ws, hP, hD, hS, hw, hl, hst⟩ := rel
  have hd := mv_dec hg
  simp only [mv_step] at hs
  cases hs
  have K0 : ∀ lsr1 str1, mv_rl ι c.1 bs ls (mv_m y).2.2.1 lsr1 → mv_rs ι c.1 bs (((0 : Nat), k) :: st) str1 → W p l e R s m args below meth cd H locs cells slots Q (F0 m (pc + 1) lsr1 str1) := fun lsr1 str1 r1 r2 => by
    have := K H locs ι lsr1 str1 ⟨ws, hP, hD, hS, hw, r1, r2⟩ (fun _ _ _ => rfl)
    simpa only [Nat.sub_self, Nat.add_zero] using this
  exact lv_iconst hx hb (v := Int32.ofInt k) hd rfl (K0 _ _ hl ⟨rfl, hst⟩)
theorem mv_w_bipush {c c' : mv_C} {h' : mv_H} {pc' : Nat} {ls' st' : List mv_V} {k : Int} (X : mv_Cx p l m args meth cd y D bs base L xs s) (hg : mv_get (mv_m y).1 pc = some (.bipush k, a)) (hs : mv_step ((L : Int), fun j => (xs j.toNat).toInt) pc (.bipush k) a ls st c h = some (pc', ls', st', c', h'))
    (rel : mv_Rl D s bs base ι c.1 h H locs (mv_m y).2.2.1 lsr str ls st) (hcs : cells + (c'.2.1 - c.2.1) ≤ R.cells) (hss : slots + (c'.2.2 - c.2.2) ≤ R.slots)
    (K : ∀ (H1 : Heap) (locs1 : List Loc) (ι1 : Int → Nat) (lsr1 : Array Slot) (str1 : List Value), mv_Rl D s bs base ι1 c'.1 h' H1 locs1 (mv_m y).2.2.1 lsr1 str1 ls' st' → (∀ j : Int, 0 ≤ j → j < c.1 → ι1 j = ι j) → W p l e R s m args below meth cd H1 locs1 (cells + (c'.2.1 - c.2.1)) (slots + (c'.2.2 - c.2.2)) Q (F0 m pc' lsr1 str1)) : W p l e R s m args below meth cd H locs cells slots Q (F0 m pc lsr str) := by
  obtain ⟨hx, hb, hml, hret, hlk, hown, hnm, hxt, hst0, hF⟩ := id X
  obtain ⟨ws, hP, hD, hS, hw, hl, hst⟩ := rel
  have hd := mv_dec hg
  simp only [mv_step] at hs
  split at hs
  · cases hs
    rename_i hr
    have K0 : ∀ lsr1 str1, mv_rl ι c.1 bs ls (mv_m y).2.2.1 lsr1 → mv_rs ι c.1 bs ((((0 : Nat), k)) :: st) str1 → W p l e R s m args below meth cd H locs cells slots Q (F0 m (pc + 2) lsr1 str1) := fun lsr1 str1 r1 r2 => by
      have := K H locs ι lsr1 str1 ⟨ws, hP, hD, hS, hw, r1, r2⟩ (fun _ _ _ => rfl)
      simpa only [Nat.sub_self, Nat.add_zero] using this
    exact lv_bipush hx hb hd rfl (K0 _ _ hl ⟨(by show Value.int _ = Value.int _; rw [nu_b8 hr.1 hr.2]), hst⟩)
  · cases hs
theorem mv_w_sipush {c c' : mv_C} {h' : mv_H} {pc' : Nat} {ls' st' : List mv_V} {k : Int} (X : mv_Cx p l m args meth cd y D bs base L xs s) (hg : mv_get (mv_m y).1 pc = some (.sipush k, a)) (hs : mv_step ((L : Int), fun j => (xs j.toNat).toInt) pc (.sipush k) a ls st c h = some (pc', ls', st', c', h'))
    (rel : mv_Rl D s bs base ι c.1 h H locs (mv_m y).2.2.1 lsr str ls st) (hcs : cells + (c'.2.1 - c.2.1) ≤ R.cells) (hss : slots + (c'.2.2 - c.2.2) ≤ R.slots)
    (K : ∀ (H1 : Heap) (locs1 : List Loc) (ι1 : Int → Nat) (lsr1 : Array Slot) (str1 : List Value), mv_Rl D s bs base ι1 c'.1 h' H1 locs1 (mv_m y).2.2.1 lsr1 str1 ls' st' → (∀ j : Int, 0 ≤ j → j < c.1 → ι1 j = ι j) → W p l e R s m args below meth cd H1 locs1 (cells + (c'.2.1 - c.2.1)) (slots + (c'.2.2 - c.2.2)) Q (F0 m pc' lsr1 str1)) : W p l e R s m args below meth cd H locs cells slots Q (F0 m pc lsr str) := by
  obtain ⟨hx, hb, hml, hret, hlk, hown, hnm, hxt, hst0, hF⟩ := id X
  obtain ⟨ws, hP, hD, hS, hw, hl, hst⟩ := rel
  have hd := mv_dec hg
  simp only [mv_step] at hs
  split at hs
  · cases hs
    rename_i hr
    have K0 : ∀ lsr1 str1, mv_rl ι c.1 bs ls (mv_m y).2.2.1 lsr1 → mv_rs ι c.1 bs ((((0 : Nat), k)) :: st) str1 → W p l e R s m args below meth cd H locs cells slots Q (F0 m (pc + 3) lsr1 str1) := fun lsr1 str1 r1 r2 => by
      have := K H locs ι lsr1 str1 ⟨ws, hP, hD, hS, hw, r1, r2⟩ (fun _ _ _ => rfl)
      simpa only [Nat.sub_self, Nat.add_zero] using this
    exact lv_sipush hx hb hd rfl (K0 _ _ hl ⟨(by show Value.int _ = Value.int _; rw [nu_b16 hr.1 hr.2]), hst⟩)
  · cases hs
theorem mv_w_lconst {c c' : mv_C} {h' : mv_H} {pc' : Nat} {ls' st' : List mv_V} {k : Fin 2} (X : mv_Cx p l m args meth cd y D bs base L xs s) (hg : mv_get (mv_m y).1 pc = some (.lconst k, a)) (hs : mv_step ((L : Int), fun j => (xs j.toNat).toInt) pc (.lconst k) a ls st c h = some (pc', ls', st', c', h'))
    (rel : mv_Rl D s bs base ι c.1 h H locs (mv_m y).2.2.1 lsr str ls st) (hcs : cells + (c'.2.1 - c.2.1) ≤ R.cells) (hss : slots + (c'.2.2 - c.2.2) ≤ R.slots)
    (K : ∀ (H1 : Heap) (locs1 : List Loc) (ι1 : Int → Nat) (lsr1 : Array Slot) (str1 : List Value), mv_Rl D s bs base ι1 c'.1 h' H1 locs1 (mv_m y).2.2.1 lsr1 str1 ls' st' → (∀ j : Int, 0 ≤ j → j < c.1 → ι1 j = ι j) → W p l e R s m args below meth cd H1 locs1 (cells + (c'.2.1 - c.2.1)) (slots + (c'.2.2 - c.2.2)) Q (F0 m pc' lsr1 str1)) : W p l e R s m args below meth cd H locs cells slots Q (F0 m pc lsr str) := by
  obtain ⟨hx, hb, hml, hret, hlk, hown, hnm, hxt, hst0, hF⟩ := id X
  obtain ⟨ws, hP, hD, hS, hw, hl, hst⟩ := rel
  have hd := mv_dec hg
  simp only [mv_step] at hs
  cases hs
  have K0 : ∀ lsr1 str1, mv_rl ι c.1 bs ls (mv_m y).2.2.1 lsr1 → mv_rs ι c.1 bs (((1 : Nat), ((k : Nat) : Int)) :: st) str1 → W p l e R s m args below meth cd H locs cells slots Q (F0 m (pc + 1) lsr1 str1) := fun lsr1 str1 r1 r2 => by
    have := K H locs ι lsr1 str1 ⟨ws, hP, hD, hS, hw, r1, r2⟩ (fun _ _ _ => rfl)
    simpa only [Nat.sub_self, Nat.add_zero] using this
  exact lv_lconst hx hb (v := Int64.ofInt ((k : Nat) : Int)) hd rfl (K0 _ _ hl ⟨rfl, hst⟩)
theorem mv_w_ldc {c c' : mv_C} {h' : mv_H} {pc' : Nat} {ls' st' : List mv_V} {k : Nat} (X : mv_Cx p l m args meth cd y D bs base L xs s) (hg : mv_get (mv_m y).1 pc = some (.ldc k, a)) (hs : mv_step ((L : Int), fun j => (xs j.toNat).toInt) pc (.ldc k) a ls st c h = some (pc', ls', st', c', h'))
    (rel : mv_Rl D s bs base ι c.1 h H locs (mv_m y).2.2.1 lsr str ls st) (hcs : cells + (c'.2.1 - c.2.1) ≤ R.cells) (hss : slots + (c'.2.2 - c.2.2) ≤ R.slots)
    (K : ∀ (H1 : Heap) (locs1 : List Loc) (ι1 : Int → Nat) (lsr1 : Array Slot) (str1 : List Value), mv_Rl D s bs base ι1 c'.1 h' H1 locs1 (mv_m y).2.2.1 lsr1 str1 ls' st' → (∀ j : Int, 0 ≤ j → j < c.1 → ι1 j = ι j) → W p l e R s m args below meth cd H1 locs1 (cells + (c'.2.1 - c.2.1)) (slots + (c'.2.2 - c.2.2)) Q (F0 m pc' lsr1 str1)) : W p l e R s m args below meth cd H locs cells slots Q (F0 m pc lsr str) := by
  obtain ⟨hx, hb, hml, hret, hlk, hown, hnm, hxt, hst0, hF⟩ := id X
  obtain ⟨ws, hP, hD, hS, hw, hl, hst⟩ := rel
  have hd := mv_dec hg
  simp only [mv_step] at hs
  cases hs
  have K0 : ∀ lsr1 str1, mv_rl ι c.1 bs ls (mv_m y).2.2.1 lsr1 → mv_rs ι c.1 bs (((0 : Nat), a) :: st) str1 → W p l e R s m args below meth cd H locs cells slots Q (F0 m (pc + 2) lsr1 str1) := fun lsr1 str1 r1 r2 => by
    have := K H locs ι lsr1 str1 ⟨ws, hP, hD, hS, hw, r1, r2⟩ (fun _ _ _ => rfl)
    simpa only [Nat.sub_self, Nat.add_zero] using this
  obtain ⟨pl, hpl⟩ := mv_pool hg
  have hc : (Cond.constant (mv_ow y) k (Int32.ofInt a)).before args s = true := by
    match pl, hpl with
    | [q], hpl => exact hF.1 _ (mv_G_in (mv_at_in hpl) rfl) _
    | [], hpl => cases hpl
    | _ :: _ :: _, hpl => cases hpl
  exact lv_ldc hx hb hown hc hd (K0 _ _ hl ⟨rfl, hst⟩)
theorem mv_w_ldc_w {c c' : mv_C} {h' : mv_H} {pc' : Nat} {ls' st' : List mv_V} {k : Nat} (X : mv_Cx p l m args meth cd y D bs base L xs s) (hg : mv_get (mv_m y).1 pc = some (.ldc_w k, a)) (hs : mv_step ((L : Int), fun j => (xs j.toNat).toInt) pc (.ldc_w k) a ls st c h = some (pc', ls', st', c', h'))
    (rel : mv_Rl D s bs base ι c.1 h H locs (mv_m y).2.2.1 lsr str ls st) (hcs : cells + (c'.2.1 - c.2.1) ≤ R.cells) (hss : slots + (c'.2.2 - c.2.2) ≤ R.slots)
    (K : ∀ (H1 : Heap) (locs1 : List Loc) (ι1 : Int → Nat) (lsr1 : Array Slot) (str1 : List Value), mv_Rl D s bs base ι1 c'.1 h' H1 locs1 (mv_m y).2.2.1 lsr1 str1 ls' st' → (∀ j : Int, 0 ≤ j → j < c.1 → ι1 j = ι j) → W p l e R s m args below meth cd H1 locs1 (cells + (c'.2.1 - c.2.1)) (slots + (c'.2.2 - c.2.2)) Q (F0 m pc' lsr1 str1)) : W p l e R s m args below meth cd H locs cells slots Q (F0 m pc lsr str) := by
  obtain ⟨hx, hb, hml, hret, hlk, hown, hnm, hxt, hst0, hF⟩ := id X
  obtain ⟨ws, hP, hD, hS, hw, hl, hst⟩ := rel
  have hd := mv_dec hg
  simp only [mv_step] at hs
  cases hs
  have K0 : ∀ lsr1 str1, mv_rl ι c.1 bs ls (mv_m y).2.2.1 lsr1 → mv_rs ι c.1 bs (((0 : Nat), a) :: st) str1 → W p l e R s m args below meth cd H locs cells slots Q (F0 m (pc + 3) lsr1 str1) := fun lsr1 str1 r1 r2 => by
    have := K H locs ι lsr1 str1 ⟨ws, hP, hD, hS, hw, r1, r2⟩ (fun _ _ _ => rfl)
    simpa only [Nat.sub_self, Nat.add_zero] using this
  obtain ⟨pl, hpl⟩ := mv_pool hg
  have hc : (Cond.constant (mv_ow y) k (Int32.ofInt a)).before args s = true := by
    match pl, hpl with
    | [q], hpl => exact hF.1 _ (mv_G_in (mv_at_in hpl) rfl) _
    | [], hpl => cases hpl
    | _ :: _ :: _, hpl => cases hpl
  exact lv_ldcw hx hb hown hc hd (K0 _ _ hl ⟨rfl, hst⟩)
theorem mv_w_ldc2_w {c c' : mv_C} {h' : mv_H} {pc' : Nat} {ls' st' : List mv_V} {k : Nat} (X : mv_Cx p l m args meth cd y D bs base L xs s) (hg : mv_get (mv_m y).1 pc = some (.ldc2_w k, a)) (hs : mv_step ((L : Int), fun j => (xs j.toNat).toInt) pc (.ldc2_w k) a ls st c h = some (pc', ls', st', c', h'))
    (rel : mv_Rl D s bs base ι c.1 h H locs (mv_m y).2.2.1 lsr str ls st) (hcs : cells + (c'.2.1 - c.2.1) ≤ R.cells) (hss : slots + (c'.2.2 - c.2.2) ≤ R.slots)
    (K : ∀ (H1 : Heap) (locs1 : List Loc) (ι1 : Int → Nat) (lsr1 : Array Slot) (str1 : List Value), mv_Rl D s bs base ι1 c'.1 h' H1 locs1 (mv_m y).2.2.1 lsr1 str1 ls' st' → (∀ j : Int, 0 ≤ j → j < c.1 → ι1 j = ι j) → W p l e R s m args below meth cd H1 locs1 (cells + (c'.2.1 - c.2.1)) (slots + (c'.2.2 - c.2.2)) Q (F0 m pc' lsr1 str1)) : W p l e R s m args below meth cd H locs cells slots Q (F0 m pc lsr str) := by
  obtain ⟨hx, hb, hml, hret, hlk, hown, hnm, hxt, hst0, hF⟩ := id X
  obtain ⟨ws, hP, hD, hS, hw, hl, hst⟩ := rel
  have hd := mv_dec hg
  simp only [mv_step] at hs
  cases hs
  have K0 : ∀ lsr1 str1, mv_rl ι c.1 bs ls (mv_m y).2.2.1 lsr1 → mv_rs ι c.1 bs (((1 : Nat), a) :: st) str1 → W p l e R s m args below meth cd H locs cells slots Q (F0 m (pc + 3) lsr1 str1) := fun lsr1 str1 r1 r2 => by
    have := K H locs ι lsr1 str1 ⟨ws, hP, hD, hS, hw, r1, r2⟩ (fun _ _ _ => rfl)
    simpa only [Nat.sub_self, Nat.add_zero] using this
  obtain ⟨pl, hpl⟩ := mv_pool hg
  have hc : (Cond.constantLong (mv_ow y) k (Int64.ofInt a)).before args s = true := by
    match pl, hpl with
    | [q], hpl => exact hF.1 _ (mv_G_in (mv_at_in hpl) rfl) _
    | [], hpl => cases hpl
    | _ :: _ :: _, hpl => cases hpl
  exact lv_ldc2 hx hb hown hc hd (K0 _ _ hl ⟨rfl, hst⟩)
theorem mv_w_iload {c c' : mv_C} {h' : mv_H} {pc' : Nat} {ls' st' : List mv_V} {k : Nat} (X : mv_Cx p l m args meth cd y D bs base L xs s) (hg : mv_get (mv_m y).1 pc = some (.iload k, a)) (hs : mv_step ((L : Int), fun j => (xs j.toNat).toInt) pc (.iload k) a ls st c h = some (pc', ls', st', c', h'))
    (rel : mv_Rl D s bs base ι c.1 h H locs (mv_m y).2.2.1 lsr str ls st) (hcs : cells + (c'.2.1 - c.2.1) ≤ R.cells) (hss : slots + (c'.2.2 - c.2.2) ≤ R.slots)
    (K : ∀ (H1 : Heap) (locs1 : List Loc) (ι1 : Int → Nat) (lsr1 : Array Slot) (str1 : List Value), mv_Rl D s bs base ι1 c'.1 h' H1 locs1 (mv_m y).2.2.1 lsr1 str1 ls' st' → (∀ j : Int, 0 ≤ j → j < c.1 → ι1 j = ι j) → W p l e R s m args below meth cd H1 locs1 (cells + (c'.2.1 - c.2.1)) (slots + (c'.2.2 - c.2.2)) Q (F0 m pc' lsr1 str1)) : W p l e R s m args below meth cd H locs cells slots Q (F0 m pc lsr str) := by
  obtain ⟨hx, hb, hml, hret, hlk, hown, hnm, hxt, hst0, hF⟩ := id X
  obtain ⟨ws, hP, hD, hS, hw, hl, hst⟩ := rel
  have hd := mv_dec hg
  simp only [mv_step] at hs
  obtain ⟨v, h1, h2, h3⟩ := mv_ld_spec hs
  cases h3
  rw [mv_v0 h2] at h1 K
  have K0 : ∀ lsr1 str1, mv_rl ι c.1 bs ls (mv_m y).2.2.1 lsr1 → mv_rs ι c.1 bs ((0, v.2) :: st) str1 → W p l e R s m args below meth cd H locs cells slots Q (F0 m (pc + 2) lsr1 str1) := fun lsr1 str1 r1 r2 => by
    have := K H locs ι lsr1 str1 ⟨ws, hP, hD, hS, hw, r1, r2⟩ (fun _ _ _ => rfl)
    simpa only [Nat.sub_self, Nat.add_zero] using this
  obtain ⟨x, hx1, hx2⟩ := mv_rl_at hl h1 (by simp)
  cases hx2
  exact lv_iload hx hb hd hx1 (K0 _ _ hl ⟨rfl, hst⟩)
theorem mv_w_iload_n {c c' : mv_C} {h' : mv_H} {pc' : Nat} {ls' st' : List mv_V} {k : Fin 4} (X : mv_Cx p l m args meth cd y D bs base L xs s) (hg : mv_get (mv_m y).1 pc = some (.iload_n k, a)) (hs : mv_step ((L : Int), fun j => (xs j.toNat).toInt) pc (.iload_n k) a ls st c h = some (pc', ls', st', c', h'))
    (rel : mv_Rl D s bs base ι c.1 h H locs (mv_m y).2.2.1 lsr str ls st) (hcs : cells + (c'.2.1 - c.2.1) ≤ R.cells) (hss : slots + (c'.2.2 - c.2.2) ≤ R.slots)
    (K : ∀ (H1 : Heap) (locs1 : List Loc) (ι1 : Int → Nat) (lsr1 : Array Slot) (str1 : List Value), mv_Rl D s bs base ι1 c'.1 h' H1 locs1 (mv_m y).2.2.1 lsr1 str1 ls' st' → (∀ j : Int, 0 ≤ j → j < c.1 → ι1 j = ι j) → W p l e R s m args below meth cd H1 locs1 (cells + (c'.2.1 - c.2.1)) (slots + (c'.2.2 - c.2.2)) Q (F0 m pc' lsr1 str1)) : W p l e R s m args below meth cd H locs cells slots Q (F0 m pc lsr str) := by
  obtain ⟨hx, hb, hml, hret, hlk, hown, hnm, hxt, hst0, hF⟩ := id X
  obtain ⟨ws, hP, hD, hS, hw, hl, hst⟩ := rel
  have hd := mv_dec hg
  simp only [mv_step] at hs
  obtain ⟨v, h1, h2, h3⟩ := mv_ld_spec hs
  cases h3
  rw [mv_v0 h2] at h1 K
  have K0 : ∀ lsr1 str1, mv_rl ι c.1 bs ls (mv_m y).2.2.1 lsr1 → mv_rs ι c.1 bs ((0, v.2) :: st) str1 → W p l e R s m args below meth cd H locs cells slots Q (F0 m (pc + 1) lsr1 str1) := fun lsr1 str1 r1 r2 => by
    have := K H locs ι lsr1 str1 ⟨ws, hP, hD, hS, hw, r1, r2⟩ (fun _ _ _ => rfl)
    simpa only [Nat.sub_self, Nat.add_zero] using this
  obtain ⟨x, hx1, hx2⟩ := mv_rl_at hl h1 (by simp)
  cases hx2
  exact lv_iload_n hx hb hd rfl hx1 (K0 _ _ hl ⟨rfl, hst⟩)
theorem mv_w_lload {c c' : mv_C} {h' : mv_H} {pc' : Nat} {ls' st' : List mv_V} {k : Nat} (X : mv_Cx p l m args meth cd y D bs base L xs s) (hg : mv_get (mv_m y).1 pc = some (.lload k, a)) (hs : mv_step ((L : Int), fun j => (xs j.toNat).toInt) pc (.lload k) a ls st c h = some (pc', ls', st', c', h'))
    (rel : mv_Rl D s bs base ι c.1 h H locs (mv_m y).2.2.1 lsr str ls st) (hcs : cells + (c'.2.1 - c.2.1) ≤ R.cells) (hss : slots + (c'.2.2 - c.2.2) ≤ R.slots)
    (K : ∀ (H1 : Heap) (locs1 : List Loc) (ι1 : Int → Nat) (lsr1 : Array Slot) (str1 : List Value), mv_Rl D s bs base ι1 c'.1 h' H1 locs1 (mv_m y).2.2.1 lsr1 str1 ls' st' → (∀ j : Int, 0 ≤ j → j < c.1 → ι1 j = ι j) → W p l e R s m args below meth cd H1 locs1 (cells + (c'.2.1 - c.2.1)) (slots + (c'.2.2 - c.2.2)) Q (F0 m pc' lsr1 str1)) : W p l e R s m args below meth cd H locs cells slots Q (F0 m pc lsr str) := by
  obtain ⟨hx, hb, hml, hret, hlk, hown, hnm, hxt, hst0, hF⟩ := id X
  obtain ⟨ws, hP, hD, hS, hw, hl, hst⟩ := rel
  have hd := mv_dec hg
  simp only [mv_step] at hs
  obtain ⟨v, h1, h2, h3⟩ := mv_ld_spec hs
  cases h3
  rw [mv_v1 h2] at h1 K
  have K0 : ∀ lsr1 str1, mv_rl ι c.1 bs ls (mv_m y).2.2.1 lsr1 → mv_rs ι c.1 bs ((1, v.2) :: st) str1 → W p l e R s m args below meth cd H locs cells slots Q (F0 m (pc + 2) lsr1 str1) := fun lsr1 str1 r1 r2 => by
    have := K H locs ι lsr1 str1 ⟨ws, hP, hD, hS, hw, r1, r2⟩ (fun _ _ _ => rfl)
    simpa only [Nat.sub_self, Nat.add_zero] using this
  obtain ⟨x, hx1, hx2⟩ := mv_rl_at hl h1 (by simp)
  cases hx2
  exact lv_lload hx hb hd hx1 (K0 _ _ hl ⟨rfl, hst⟩)
theorem mv_w_lload_n {c c' : mv_C} {h' : mv_H} {pc' : Nat} {ls' st' : List mv_V} {k : Fin 4} (X : mv_Cx p l m args meth cd y D bs base L xs s) (hg : mv_get (mv_m y).1 pc = some (.lload_n k, a)) (hs : mv_step ((L : Int), fun j => (xs j.toNat).toInt) pc (.lload_n k) a ls st c h = some (pc', ls', st', c', h'))
    (rel : mv_Rl D s bs base ι c.1 h H locs (mv_m y).2.2.1 lsr str ls st) (hcs : cells + (c'.2.1 - c.2.1) ≤ R.cells) (hss : slots + (c'.2.2 - c.2.2) ≤ R.slots)
    (K : ∀ (H1 : Heap) (locs1 : List Loc) (ι1 : Int → Nat) (lsr1 : Array Slot) (str1 : List Value), mv_Rl D s bs base ι1 c'.1 h' H1 locs1 (mv_m y).2.2.1 lsr1 str1 ls' st' → (∀ j : Int, 0 ≤ j → j < c.1 → ι1 j = ι j) → W p l e R s m args below meth cd H1 locs1 (cells + (c'.2.1 - c.2.1)) (slots + (c'.2.2 - c.2.2)) Q (F0 m pc' lsr1 str1)) : W p l e R s m args below meth cd H locs cells slots Q (F0 m pc lsr str) := by
  obtain ⟨hx, hb, hml, hret, hlk, hown, hnm, hxt, hst0, hF⟩ := id X
  obtain ⟨ws, hP, hD, hS, hw, hl, hst⟩ := rel
  have hd := mv_dec hg
  simp only [mv_step] at hs
  obtain ⟨v, h1, h2, h3⟩ := mv_ld_spec hs
  cases h3
  rw [mv_v1 h2] at h1 K
  have K0 : ∀ lsr1 str1, mv_rl ι c.1 bs ls (mv_m y).2.2.1 lsr1 → mv_rs ι c.1 bs ((1, v.2) :: st) str1 → W p l e R s m args below meth cd H locs cells slots Q (F0 m (pc + 1) lsr1 str1) := fun lsr1 str1 r1 r2 => by
    have := K H locs ι lsr1 str1 ⟨ws, hP, hD, hS, hw, r1, r2⟩ (fun _ _ _ => rfl)
    simpa only [Nat.sub_self, Nat.add_zero] using this
  obtain ⟨x, hx1, hx2⟩ := mv_rl_at hl h1 (by simp)
  cases hx2
  exact lv_lload_n hx hb hd rfl hx1 (K0 _ _ hl ⟨rfl, hst⟩)
theorem mv_w_aload {c c' : mv_C} {h' : mv_H} {pc' : Nat} {ls' st' : List mv_V} {k : Nat} (X : mv_Cx p l m args meth cd y D bs base L xs s) (hg : mv_get (mv_m y).1 pc = some (.aload k, a)) (hs : mv_step ((L : Int), fun j => (xs j.toNat).toInt) pc (.aload k) a ls st c h = some (pc', ls', st', c', h'))
    (rel : mv_Rl D s bs base ι c.1 h H locs (mv_m y).2.2.1 lsr str ls st) (hcs : cells + (c'.2.1 - c.2.1) ≤ R.cells) (hss : slots + (c'.2.2 - c.2.2) ≤ R.slots)
    (K : ∀ (H1 : Heap) (locs1 : List Loc) (ι1 : Int → Nat) (lsr1 : Array Slot) (str1 : List Value), mv_Rl D s bs base ι1 c'.1 h' H1 locs1 (mv_m y).2.2.1 lsr1 str1 ls' st' → (∀ j : Int, 0 ≤ j → j < c.1 → ι1 j = ι j) → W p l e R s m args below meth cd H1 locs1 (cells + (c'.2.1 - c.2.1)) (slots + (c'.2.2 - c.2.2)) Q (F0 m pc' lsr1 str1)) : W p l e R s m args below meth cd H locs cells slots Q (F0 m pc lsr str) := by
  obtain ⟨hx, hb, hml, hret, hlk, hown, hnm, hxt, hst0, hF⟩ := id X
  obtain ⟨ws, hP, hD, hS, hw, hl, hst⟩ := rel
  have hd := mv_dec hg
  simp only [mv_step] at hs
  split at hs
  · rename_i v hv
    split at hs
    · cases hs
      rename_i ht
      have K0 : ∀ lsr1 str1, mv_rl ι c.1 bs ls (mv_m y).2.2.1 lsr1 → mv_rs ι c.1 bs (v :: st) str1 → W p l e R s m args below meth cd H locs cells slots Q (F0 m (pc + 2) lsr1 str1) := fun lsr1 str1 r1 r2 => by
        have := K H locs ι lsr1 str1 ⟨ws, hP, hD, hS, hw, r1, r2⟩ (fun _ _ _ => rfl)
        simpa only [Nat.sub_self, Nat.add_zero] using this
      obtain ⟨x, hx1, hx2⟩ := mv_rl_at hl hv (by rcases ht with ht | ht <;> omega)
      obtain ⟨q, rfl⟩ := mv_rv_ref hx2 (by rcases ht with ht | ht <;> simp [ht])
      exact lv_aload hx hb hd hx1 (K0 _ _ hl ⟨hx2, hst⟩)
    · cases hs
  · cases hs
theorem mv_w_aload_n {c c' : mv_C} {h' : mv_H} {pc' : Nat} {ls' st' : List mv_V} {k : Fin 4} (X : mv_Cx p l m args meth cd y D bs base L xs s) (hg : mv_get (mv_m y).1 pc = some (.aload_n k, a)) (hs : mv_step ((L : Int), fun j => (xs j.toNat).toInt) pc (.aload_n k) a ls st c h = some (pc', ls', st', c', h'))
    (rel : mv_Rl D s bs base ι c.1 h H locs (mv_m y).2.2.1 lsr str ls st) (hcs : cells + (c'.2.1 - c.2.1) ≤ R.cells) (hss : slots + (c'.2.2 - c.2.2) ≤ R.slots)
    (K : ∀ (H1 : Heap) (locs1 : List Loc) (ι1 : Int → Nat) (lsr1 : Array Slot) (str1 : List Value), mv_Rl D s bs base ι1 c'.1 h' H1 locs1 (mv_m y).2.2.1 lsr1 str1 ls' st' → (∀ j : Int, 0 ≤ j → j < c.1 → ι1 j = ι j) → W p l e R s m args below meth cd H1 locs1 (cells + (c'.2.1 - c.2.1)) (slots + (c'.2.2 - c.2.2)) Q (F0 m pc' lsr1 str1)) : W p l e R s m args below meth cd H locs cells slots Q (F0 m pc lsr str) := by
  obtain ⟨hx, hb, hml, hret, hlk, hown, hnm, hxt, hst0, hF⟩ := id X
  obtain ⟨ws, hP, hD, hS, hw, hl, hst⟩ := rel
  have hd := mv_dec hg
  simp only [mv_step] at hs
  split at hs
  · rename_i v hv
    split at hs
    · cases hs
      rename_i ht
      have K0 : ∀ lsr1 str1, mv_rl ι c.1 bs ls (mv_m y).2.2.1 lsr1 → mv_rs ι c.1 bs (v :: st) str1 → W p l e R s m args below meth cd H locs cells slots Q (F0 m (pc + 1) lsr1 str1) := fun lsr1 str1 r1 r2 => by
        have := K H locs ι lsr1 str1 ⟨ws, hP, hD, hS, hw, r1, r2⟩ (fun _ _ _ => rfl)
        simpa only [Nat.sub_self, Nat.add_zero] using this
      obtain ⟨x, hx1, hx2⟩ := mv_rl_at hl hv (by rcases ht with ht | ht <;> omega)
      obtain ⟨q, rfl⟩ := mv_rv_ref hx2 (by rcases ht with ht | ht <;> simp [ht])
      exact lv_aload_n hx hb hd rfl hx1 (K0 _ _ hl ⟨hx2, hst⟩)
    · cases hs
  · cases hs
theorem mv_w_istore {c c' : mv_C} {h' : mv_H} {pc' : Nat} {ls' st' : List mv_V} {k : Nat} (X : mv_Cx p l m args meth cd y D bs base L xs s) (hg : mv_get (mv_m y).1 pc = some (.istore k, a)) (hs : mv_step ((L : Int), fun j => (xs j.toNat).toInt) pc (.istore k) a ls st c h = some (pc', ls', st', c', h'))
    (rel : mv_Rl D s bs base ι c.1 h H locs (mv_m y).2.2.1 lsr str ls st) (hcs : cells + (c'.2.1 - c.2.1) ≤ R.cells) (hss : slots + (c'.2.2 - c.2.2) ≤ R.slots)
    (K : ∀ (H1 : Heap) (locs1 : List Loc) (ι1 : Int → Nat) (lsr1 : Array Slot) (str1 : List Value), mv_Rl D s bs base ι1 c'.1 h' H1 locs1 (mv_m y).2.2.1 lsr1 str1 ls' st' → (∀ j : Int, 0 ≤ j → j < c.1 → ι1 j = ι j) → W p l e R s m args below meth cd H1 locs1 (cells + (c'.2.1 - c.2.1)) (slots + (c'.2.2 - c.2.2)) Q (F0 m pc' lsr1 str1)) : W p l e R s m args below meth cd H locs cells slots Q (F0 m pc lsr str) := by
  obtain ⟨hx, hb, hml, hret, hlk, hown, hnm, hxt, hst0, hF⟩ := id X
  obtain ⟨ws, hP, hD, hS, hw, hl, hst⟩ := rel
  have hd := mv_dec hg
  simp only [mv_step] at hs
  split at hs
  · rename_i z r
    obtain ⟨l1, h1, h2⟩ := Option.map_eq_some_iff.mp hs
    cases h2
    obtain ⟨q, rfl, hq⟩ := mv_rs_i hst
    obtain ⟨hll, lv, hlv, hlr⟩ := hl
    have hk := (mv_s1_spec h1).1
    have K0 : ∀ lsr1 str1, mv_rl ι c.1 bs ls' (mv_m y).2.2.1 lsr1 → mv_rs ι c.1 bs st' str1 → W p l e R s m args below meth cd H locs cells slots Q (F0 m (pc + 2) lsr1 str1) := fun lsr1 str1 r1 r2 => by
      have := K H locs ι lsr1 str1 ⟨ws, hP, hD, hS, hw, r1, r2⟩ (fun _ _ _ => rfl)
      simpa only [Nat.sub_self, Nat.add_zero] using this
    exact lv_istore (lv := lv) (nL := (mv_m y).2.2.1) hx hb hd hlv (by rw [← hll]; exact hk) rfl (fun ls1 hl1 => K0 _ _ (mv_st1 hll hlr h1 rfl hl1) hq)
  · cases hs
theorem mv_w_istore_n {c c' : mv_C} {h' : mv_H} {pc' : Nat} {ls' st' : List mv_V} {k : Fin 4} (X : mv_Cx p l m args meth cd y D bs base L xs s) (hg : mv_get (mv_m y).1 pc = some (.istore_n k, a)) (hs : mv_step ((L : Int), fun j => (xs j.toNat).toInt) pc (.istore_n k) a ls st c h = some (pc', ls', st', c', h'))
    (rel : mv_Rl D s bs base ι c.1 h H locs (mv_m y).2.2.1 lsr str ls st) (hcs : cells + (c'.2.1 - c.2.1) ≤ R.cells) (hss : slots + (c'.2.2 - c.2.2) ≤ R.slots)
    (K : ∀ (H1 : Heap) (locs1 : List Loc) (ι1 : Int → Nat) (lsr1 : Array Slot) (str1 : List Value), mv_Rl D s bs base ι1 c'.1 h' H1 locs1 (mv_m y).2.2.1 lsr1 str1 ls' st' → (∀ j : Int, 0 ≤ j → j < c.1 → ι1 j = ι j) → W p l e R s m args below meth cd H1 locs1 (cells + (c'.2.1 - c.2.1)) (slots + (c'.2.2 - c.2.2)) Q (F0 m pc' lsr1 str1)) : W p l e R s m args below meth cd H locs cells slots Q (F0 m pc lsr str) := by
  obtain ⟨hx, hb, hml, hret, hlk, hown, hnm, hxt, hst0, hF⟩ := id X
  obtain ⟨ws, hP, hD, hS, hw, hl, hst⟩ := rel
  have hd := mv_dec hg
  simp only [mv_step] at hs
  split at hs
  · rename_i z r
    obtain ⟨l1, h1, h2⟩ := Option.map_eq_some_iff.mp hs
    cases h2
    obtain ⟨q, rfl, hq⟩ := mv_rs_i hst
    obtain ⟨hll, lv, hlv, hlr⟩ := hl
    have hk := (mv_s1_spec h1).1
    have K0 : ∀ lsr1 str1, mv_rl ι c.1 bs ls' (mv_m y).2.2.1 lsr1 → mv_rs ι c.1 bs st' str1 → W p l e R s m args below meth cd H locs cells slots Q (F0 m (pc + 1) lsr1 str1) := fun lsr1 str1 r1 r2 => by
      have := K H locs ι lsr1 str1 ⟨ws, hP, hD, hS, hw, r1, r2⟩ (fun _ _ _ => rfl)
      simpa only [Nat.sub_self, Nat.add_zero] using this
    exact lv_istore_n (lv := lv) (nL := (mv_m y).2.2.1) hx hb hd rfl hlv (by rw [← hll]; exact hk) rfl (fun ls1 hl1 => K0 _ _ (mv_st1 hll hlr h1 rfl hl1) hq)
  · cases hs
theorem mv_w_lstore {c c' : mv_C} {h' : mv_H} {pc' : Nat} {ls' st' : List mv_V} {k : Nat} (X : mv_Cx p l m args meth cd y D bs base L xs s) (hg : mv_get (mv_m y).1 pc = some (.lstore k, a)) (hs : mv_step ((L : Int), fun j => (xs j.toNat).toInt) pc (.lstore k) a ls st c h = some (pc', ls', st', c', h'))
    (rel : mv_Rl D s bs base ι c.1 h H locs (mv_m y).2.2.1 lsr str ls st) (hcs : cells + (c'.2.1 - c.2.1) ≤ R.cells) (hss : slots + (c'.2.2 - c.2.2) ≤ R.slots)
    (K : ∀ (H1 : Heap) (locs1 : List Loc) (ι1 : Int → Nat) (lsr1 : Array Slot) (str1 : List Value), mv_Rl D s bs base ι1 c'.1 h' H1 locs1 (mv_m y).2.2.1 lsr1 str1 ls' st' → (∀ j : Int, 0 ≤ j → j < c.1 → ι1 j = ι j) → W p l e R s m args below meth cd H1 locs1 (cells + (c'.2.1 - c.2.1)) (slots + (c'.2.2 - c.2.2)) Q (F0 m pc' lsr1 str1)) : W p l e R s m args below meth cd H locs cells slots Q (F0 m pc lsr str) := by
  obtain ⟨hx, hb, hml, hret, hlk, hown, hnm, hxt, hst0, hF⟩ := id X
  obtain ⟨ws, hP, hD, hS, hw, hl, hst⟩ := rel
  have hd := mv_dec hg
  simp only [mv_step] at hs
  split at hs
  · rename_i z r
    obtain ⟨l1, h1, h2⟩ := Option.map_eq_some_iff.mp hs
    cases h2
    obtain ⟨q, rfl, hq⟩ := mv_rs_j hst
    obtain ⟨hll, lv, hlv, hlr⟩ := hl
    have hk := (mv_s2_spec h1).1
    have K0 : ∀ lsr1 str1, mv_rl ι c.1 bs ls' (mv_m y).2.2.1 lsr1 → mv_rs ι c.1 bs st' str1 → W p l e R s m args below meth cd H locs cells slots Q (F0 m (pc + 2) lsr1 str1) := fun lsr1 str1 r1 r2 => by
      have := K H locs ι lsr1 str1 ⟨ws, hP, hD, hS, hw, r1, r2⟩ (fun _ _ _ => rfl)
      simpa only [Nat.sub_self, Nat.add_zero] using this
    exact lv_lstore (lv := lv) (nL := (mv_m y).2.2.1) hx hb hd hlv (by rw [← hll]; exact hk) rfl (fun ls1 hl1 => K0 _ _ (mv_st2 hll hlr h1 rfl hl1) hq)
  · cases hs
theorem mv_w_lstore_n {c c' : mv_C} {h' : mv_H} {pc' : Nat} {ls' st' : List mv_V} {k : Fin 4} (X : mv_Cx p l m args meth cd y D bs base L xs s) (hg : mv_get (mv_m y).1 pc = some (.lstore_n k, a)) (hs : mv_step ((L : Int), fun j => (xs j.toNat).toInt) pc (.lstore_n k) a ls st c h = some (pc', ls', st', c', h'))
    (rel : mv_Rl D s bs base ι c.1 h H locs (mv_m y).2.2.1 lsr str ls st) (hcs : cells + (c'.2.1 - c.2.1) ≤ R.cells) (hss : slots + (c'.2.2 - c.2.2) ≤ R.slots)
    (K : ∀ (H1 : Heap) (locs1 : List Loc) (ι1 : Int → Nat) (lsr1 : Array Slot) (str1 : List Value), mv_Rl D s bs base ι1 c'.1 h' H1 locs1 (mv_m y).2.2.1 lsr1 str1 ls' st' → (∀ j : Int, 0 ≤ j → j < c.1 → ι1 j = ι j) → W p l e R s m args below meth cd H1 locs1 (cells + (c'.2.1 - c.2.1)) (slots + (c'.2.2 - c.2.2)) Q (F0 m pc' lsr1 str1)) : W p l e R s m args below meth cd H locs cells slots Q (F0 m pc lsr str) := by
  obtain ⟨hx, hb, hml, hret, hlk, hown, hnm, hxt, hst0, hF⟩ := id X
  obtain ⟨ws, hP, hD, hS, hw, hl, hst⟩ := rel
  have hd := mv_dec hg
  simp only [mv_step] at hs
  split at hs
  · rename_i z r
    obtain ⟨l1, h1, h2⟩ := Option.map_eq_some_iff.mp hs
    cases h2
    obtain ⟨q, rfl, hq⟩ := mv_rs_j hst
    obtain ⟨hll, lv, hlv, hlr⟩ := hl
    have hk := (mv_s2_spec h1).1
    have K0 : ∀ lsr1 str1, mv_rl ι c.1 bs ls' (mv_m y).2.2.1 lsr1 → mv_rs ι c.1 bs st' str1 → W p l e R s m args below meth cd H locs cells slots Q (F0 m (pc + 1) lsr1 str1) := fun lsr1 str1 r1 r2 => by
      have := K H locs ι lsr1 str1 ⟨ws, hP, hD, hS, hw, r1, r2⟩ (fun _ _ _ => rfl)
      simpa only [Nat.sub_self, Nat.add_zero] using this
    exact lv_lstore_n (lv := lv) (nL := (mv_m y).2.2.1) hx hb hd rfl hlv (by rw [← hll]; exact hk) rfl (fun ls1 hl1 => K0 _ _ (mv_st2 hll hlr h1 rfl hl1) hq)
  · cases hs
theorem mv_w_astore {c c' : mv_C} {h' : mv_H} {pc' : Nat} {ls' st' : List mv_V} {k : Nat} (X : mv_Cx p l m args meth cd y D bs base L xs s) (hg : mv_get (mv_m y).1 pc = some (.astore k, a)) (hs : mv_step ((L : Int), fun j => (xs j.toNat).toInt) pc (.astore k) a ls st c h = some (pc', ls', st', c', h'))
    (rel : mv_Rl D s bs base ι c.1 h H locs (mv_m y).2.2.1 lsr str ls st) (hcs : cells + (c'.2.1 - c.2.1) ≤ R.cells) (hss : slots + (c'.2.2 - c.2.2) ≤ R.slots)
    (K : ∀ (H1 : Heap) (locs1 : List Loc) (ι1 : Int → Nat) (lsr1 : Array Slot) (str1 : List Value), mv_Rl D s bs base ι1 c'.1 h' H1 locs1 (mv_m y).2.2.1 lsr1 str1 ls' st' → (∀ j : Int, 0 ≤ j → j < c.1 → ι1 j = ι j) → W p l e R s m args below meth cd H1 locs1 (cells + (c'.2.1 - c.2.1)) (slots + (c'.2.2 - c.2.2)) Q (F0 m pc' lsr1 str1)) : W p l e R s m args below meth cd H locs cells slots Q (F0 m pc lsr str) := by
  obtain ⟨hx, hb, hml, hret, hlk, hown, hnm, hxt, hst0, hF⟩ := id X
  obtain ⟨ws, hP, hD, hS, hw, hl, hst⟩ := rel
  have hd := mv_dec hg
  simp only [mv_step] at hs
  split at hs
  · rename_i v r
    split at hs
    · rename_i ht
      obtain ⟨l1, h1, h2⟩ := Option.map_eq_some_iff.mp hs
      cases h2
      obtain ⟨x, q, rfl, hx2, hq⟩ := mv_rs_c hst
      obtain ⟨x1, rfl⟩ := mv_rv_ref hx2 (by rcases ht with ht | ht <;> simp [ht])
      obtain ⟨hll, lv, hlv, hlr⟩ := hl
      have hk := (mv_s1_spec h1).1
      have K0 : ∀ lsr1 str1, mv_rl ι c.1 bs ls' (mv_m y).2.2.1 lsr1 → mv_rs ι c.1 bs st' str1 → W p l e R s m args below meth cd H locs cells slots Q (F0 m (pc + 2) lsr1 str1) := fun lsr1 str1 r1 r2 => by
        have := K H locs ι lsr1 str1 ⟨ws, hP, hD, hS, hw, r1, r2⟩ (fun _ _ _ => rfl)
        simpa only [Nat.sub_self, Nat.add_zero] using this
      exact lv_astore (lv := lv) (nL := (mv_m y).2.2.1) hx hb hd hlv (by rw [← hll]; exact hk) rfl (fun ls1 hl1 => K0 _ _ (mv_st1 hll hlr h1 hx2 hl1) hq)
    · cases hs
  · cases hs
theorem mv_w_astore_n {c c' : mv_C} {h' : mv_H} {pc' : Nat} {ls' st' : List mv_V} {k : Fin 4} (X : mv_Cx p l m args meth cd y D bs base L xs s) (hg : mv_get (mv_m y).1 pc = some (.astore_n k, a)) (hs : mv_step ((L : Int), fun j => (xs j.toNat).toInt) pc (.astore_n k) a ls st c h = some (pc', ls', st', c', h'))
    (rel : mv_Rl D s bs base ι c.1 h H locs (mv_m y).2.2.1 lsr str ls st) (hcs : cells + (c'.2.1 - c.2.1) ≤ R.cells) (hss : slots + (c'.2.2 - c.2.2) ≤ R.slots)
    (K : ∀ (H1 : Heap) (locs1 : List Loc) (ι1 : Int → Nat) (lsr1 : Array Slot) (str1 : List Value), mv_Rl D s bs base ι1 c'.1 h' H1 locs1 (mv_m y).2.2.1 lsr1 str1 ls' st' → (∀ j : Int, 0 ≤ j → j < c.1 → ι1 j = ι j) → W p l e R s m args below meth cd H1 locs1 (cells + (c'.2.1 - c.2.1)) (slots + (c'.2.2 - c.2.2)) Q (F0 m pc' lsr1 str1)) : W p l e R s m args below meth cd H locs cells slots Q (F0 m pc lsr str) := by
  obtain ⟨hx, hb, hml, hret, hlk, hown, hnm, hxt, hst0, hF⟩ := id X
  obtain ⟨ws, hP, hD, hS, hw, hl, hst⟩ := rel
  have hd := mv_dec hg
  simp only [mv_step] at hs
  split at hs
  · rename_i v r
    split at hs
    · rename_i ht
      obtain ⟨l1, h1, h2⟩ := Option.map_eq_some_iff.mp hs
      cases h2
      obtain ⟨x, q, rfl, hx2, hq⟩ := mv_rs_c hst
      obtain ⟨x1, rfl⟩ := mv_rv_ref hx2 (by rcases ht with ht | ht <;> simp [ht])
      obtain ⟨hll, lv, hlv, hlr⟩ := hl
      have hk := (mv_s1_spec h1).1
      have K0 : ∀ lsr1 str1, mv_rl ι c.1 bs ls' (mv_m y).2.2.1 lsr1 → mv_rs ι c.1 bs st' str1 → W p l e R s m args below meth cd H locs cells slots Q (F0 m (pc + 1) lsr1 str1) := fun lsr1 str1 r1 r2 => by
        have := K H locs ι lsr1 str1 ⟨ws, hP, hD, hS, hw, r1, r2⟩ (fun _ _ _ => rfl)
        simpa only [Nat.sub_self, Nat.add_zero] using this
      exact lv_astore_n (lv := lv) (nL := (mv_m y).2.2.1) hx hb hd rfl hlv (by rw [← hll]; exact hk) rfl (fun ls1 hl1 => K0 _ _ (mv_st1 hll hlr h1 hx2 hl1) hq)
    · cases hs
  · cases hs
theorem mv_w_iinc {c c' : mv_C} {h' : mv_H} {pc' : Nat} {ls' st' : List mv_V} {k : Nat} {d : Int} (X : mv_Cx p l m args meth cd y D bs base L xs s) (hg : mv_get (mv_m y).1 pc = some (.iinc k d, a)) (hs : mv_step ((L : Int), fun j => (xs j.toNat).toInt) pc (.iinc k d) a ls st c h = some (pc', ls', st', c', h'))
    (rel : mv_Rl D s bs base ι c.1 h H locs (mv_m y).2.2.1 lsr str ls st) (hcs : cells + (c'.2.1 - c.2.1) ≤ R.cells) (hss : slots + (c'.2.2 - c.2.2) ≤ R.slots)
    (K : ∀ (H1 : Heap) (locs1 : List Loc) (ι1 : Int → Nat) (lsr1 : Array Slot) (str1 : List Value), mv_Rl D s bs base ι1 c'.1 h' H1 locs1 (mv_m y).2.2.1 lsr1 str1 ls' st' → (∀ j : Int, 0 ≤ j → j < c.1 → ι1 j = ι j) → W p l e R s m args below meth cd H1 locs1 (cells + (c'.2.1 - c.2.1)) (slots + (c'.2.2 - c.2.2)) Q (F0 m pc' lsr1 str1)) : W p l e R s m args below meth cd H locs cells slots Q (F0 m pc lsr str) := by
  obtain ⟨hx, hb, hml, hret, hlk, hown, hnm, hxt, hst0, hF⟩ := id X
  obtain ⟨ws, hP, hD, hS, hw, hl, hst⟩ := rel
  have hd := mv_dec hg
  simp only [mv_step] at hs
  split at hs
  · rename_i z hz
    obtain ⟨l1, h1, h2⟩ := Option.map_eq_some_iff.mp hs
    cases h2
    obtain ⟨hll, lv, hlv, hlr⟩ := hl
    obtain ⟨x, hxm, hxr⟩ := hlr k _ hz (by simp)
    cases hxr
    obtain ⟨k9, hk9⟩ := List.getElem?_of_mem hxm
    have hk := (mv_s1_spec h1).1
    have K0 : ∀ lsr1 str1, mv_rl ι c.1 bs ls' (mv_m y).2.2.1 lsr1 → mv_rs ι c.1 bs st str1 → W p l e R s m args below meth cd H locs cells slots Q (F0 m (pc + 3) lsr1 str1) := fun lsr1 str1 r1 r2 => by
      have := K H locs ι lsr1 str1 ⟨ws, hP, hD, hS, hw, r1, r2⟩ (fun _ _ _ => rfl)
      simpa only [Nat.sub_self, Nat.add_zero] using this
    exact lv_iinc (lv := lv) (nL := (mv_m y).2.2.1) hx hb hd hlv (k := k9) hk9 (Int32.ofInt_add z d).symm (by rw [← hll]; exact hk) rfl (fun ls1 hl1 => K0 _ _ (mv_st1 hll hlr h1 rfl hl1) hst)
  · cases hs
theorem mv_w_iadd {c c' : mv_C} {h' : mv_H} {pc' : Nat} {ls' st' : List mv_V}  (X : mv_Cx p l m args meth cd y D bs base L xs s) (hg : mv_get (mv_m y).1 pc = some (.iadd, a)) (hs : mv_step ((L : Int), fun j => (xs j.toNat).toInt) pc (.iadd) a ls st c h = some (pc', ls', st', c', h'))
    (rel : mv_Rl D s bs base ι c.1 h H locs (mv_m y).2.2.1 lsr str ls st) (hcs : cells + (c'.2.1 - c.2.1) ≤ R.cells) (hss : slots + (c'.2.2 - c.2.2) ≤ R.slots)
    (K : ∀ (H1 : Heap) (locs1 : List Loc) (ι1 : Int → Nat) (lsr1 : Array Slot) (str1 : List Value), mv_Rl D s bs base ι1 c'.1 h' H1 locs1 (mv_m y).2.2.1 lsr1 str1 ls' st' → (∀ j : Int, 0 ≤ j → j < c.1 → ι1 j = ι j) → W p l e R s m args below meth cd H1 locs1 (cells + (c'.2.1 - c.2.1)) (slots + (c'.2.2 - c.2.2)) Q (F0 m pc' lsr1 str1)) : W p l e R s m args below meth cd H locs cells slots Q (F0 m pc lsr str) := by
  obtain ⟨hx, hb, hml, hret, hlk, hown, hnm, hxt, hst0, hF⟩ := id X
  obtain ⟨ws, hP, hD, hS, hw, hl, hst⟩ := rel
  have hd := mv_dec hg
  simp only [mv_step] at hs
  obtain ⟨x1, x2, r, rfl, hs9⟩ := mv_b2_spec hs
  obtain ⟨q1, rfl, hst1⟩ := mv_rs_i hst
  obtain ⟨q2, rfl, hst2⟩ := mv_rs_i hst1
  cases hs9
  have K0 : ∀ lsr1 str1, mv_rl ι c.1 bs ls (mv_m y).2.2.1 lsr1 → mv_rs ι c.1 bs (((0 : Nat), x1 + x2) :: r) str1 → W p l e R s m args below meth cd H locs cells slots Q (F0 m (pc + 1) lsr1 str1) := fun lsr1 str1 r1 r2 => by
    have := K H locs ι lsr1 str1 ⟨ws, hP, hD, hS, hw, r1, r2⟩ (fun _ _ _ => rfl)
    simpa only [Nat.sub_self, Nat.add_zero] using this
  refine lv_iadd hx hb hd ?_
  exact K0 _ _ hl ⟨by show Value.int _ = Value.int _; rw [Int32.ofInt_add], hst2⟩
theorem mv_w_isub {c c' : mv_C} {h' : mv_H} {pc' : Nat} {ls' st' : List mv_V}  (X : mv_Cx p l m args meth cd y D bs base L xs s) (hg : mv_get (mv_m y).1 pc = some (.isub, a)) (hs : mv_step ((L : Int), fun j => (xs j.toNat).toInt) pc (.isub) a ls st c h = some (pc', ls', st', c', h'))
    (rel : mv_Rl D s bs base ι c.1 h H locs (mv_m y).2.2.1 lsr str ls st) (hcs : cells + (c'.2.1 - c.2.1) ≤ R.cells) (hss : slots + (c'.2.2 - c.2.2) ≤ R.slots)
    (K : ∀ (H1 : Heap) (locs1 : List Loc) (ι1 : Int → Nat) (lsr1 : Array Slot) (str1 : List Value), mv_Rl D s bs base ι1 c'.1 h' H1 locs1 (mv_m y).2.2.1 lsr1 str1 ls' st' → (∀ j : Int, 0 ≤ j → j < c.1 → ι1 j = ι j) → W p l e R s m args below meth cd H1 locs1 (cells + (c'.2.1 - c.2.1)) (slots + (c'.2.2 - c.2.2)) Q (F0 m pc' lsr1 str1)) : W p l e R s m args below meth cd H locs cells slots Q (F0 m pc lsr str) := by
  obtain ⟨hx, hb, hml, hret, hlk, hown, hnm, hxt, hst0, hF⟩ := id X
  obtain ⟨ws, hP, hD, hS, hw, hl, hst⟩ := rel
  have hd := mv_dec hg
  simp only [mv_step] at hs
  obtain ⟨x1, x2, r, rfl, hs9⟩ := mv_b2_spec hs
  obtain ⟨q1, rfl, hst1⟩ := mv_rs_i hst
  obtain ⟨q2, rfl, hst2⟩ := mv_rs_i hst1
  cases hs9
  have K0 : ∀ lsr1 str1, mv_rl ι c.1 bs ls (mv_m y).2.2.1 lsr1 → mv_rs ι c.1 bs (((0 : Nat), x1 - x2) :: r) str1 → W p l e R s m args below meth cd H locs cells slots Q (F0 m (pc + 1) lsr1 str1) := fun lsr1 str1 r1 r2 => by
    have := K H locs ι lsr1 str1 ⟨ws, hP, hD, hS, hw, r1, r2⟩ (fun _ _ _ => rfl)
    simpa only [Nat.sub_self, Nat.add_zero] using this
  refine lv_isub hx hb hd ?_
  exact K0 _ _ hl ⟨by show Value.int _ = Value.int _; rw [Int32.ofInt_sub], hst2⟩
theorem mv_w_imul {c c' : mv_C} {h' : mv_H} {pc' : Nat} {ls' st' : List mv_V}  (X : mv_Cx p l m args meth cd y D bs base L xs s) (hg : mv_get (mv_m y).1 pc = some (.imul, a)) (hs : mv_step ((L : Int), fun j => (xs j.toNat).toInt) pc (.imul) a ls st c h = some (pc', ls', st', c', h'))
    (rel : mv_Rl D s bs base ι c.1 h H locs (mv_m y).2.2.1 lsr str ls st) (hcs : cells + (c'.2.1 - c.2.1) ≤ R.cells) (hss : slots + (c'.2.2 - c.2.2) ≤ R.slots)
    (K : ∀ (H1 : Heap) (locs1 : List Loc) (ι1 : Int → Nat) (lsr1 : Array Slot) (str1 : List Value), mv_Rl D s bs base ι1 c'.1 h' H1 locs1 (mv_m y).2.2.1 lsr1 str1 ls' st' → (∀ j : Int, 0 ≤ j → j < c.1 → ι1 j = ι j) → W p l e R s m args below meth cd H1 locs1 (cells + (c'.2.1 - c.2.1)) (slots + (c'.2.2 - c.2.2)) Q (F0 m pc' lsr1 str1)) : W p l e R s m args below meth cd H locs cells slots Q (F0 m pc lsr str) := by
  obtain ⟨hx, hb, hml, hret, hlk, hown, hnm, hxt, hst0, hF⟩ := id X
  obtain ⟨ws, hP, hD, hS, hw, hl, hst⟩ := rel
  have hd := mv_dec hg
  simp only [mv_step] at hs
  obtain ⟨x1, x2, r, rfl, hs9⟩ := mv_b2_spec hs
  obtain ⟨q1, rfl, hst1⟩ := mv_rs_i hst
  obtain ⟨q2, rfl, hst2⟩ := mv_rs_i hst1
  cases hs9
  have K0 : ∀ lsr1 str1, mv_rl ι c.1 bs ls (mv_m y).2.2.1 lsr1 → mv_rs ι c.1 bs (((0 : Nat), x1 * x2) :: r) str1 → W p l e R s m args below meth cd H locs cells slots Q (F0 m (pc + 1) lsr1 str1) := fun lsr1 str1 r1 r2 => by
    have := K H locs ι lsr1 str1 ⟨ws, hP, hD, hS, hw, r1, r2⟩ (fun _ _ _ => rfl)
    simpa only [Nat.sub_self, Nat.add_zero] using this
  refine lv_imul hx hb hd ?_
  exact K0 _ _ hl ⟨by show Value.int _ = Value.int _; rw [Int32.ofInt_mul], hst2⟩
theorem mv_w_ladd {c c' : mv_C} {h' : mv_H} {pc' : Nat} {ls' st' : List mv_V}  (X : mv_Cx p l m args meth cd y D bs base L xs s) (hg : mv_get (mv_m y).1 pc = some (.ladd, a)) (hs : mv_step ((L : Int), fun j => (xs j.toNat).toInt) pc (.ladd) a ls st c h = some (pc', ls', st', c', h'))
    (rel : mv_Rl D s bs base ι c.1 h H locs (mv_m y).2.2.1 lsr str ls st) (hcs : cells + (c'.2.1 - c.2.1) ≤ R.cells) (hss : slots + (c'.2.2 - c.2.2) ≤ R.slots)
    (K : ∀ (H1 : Heap) (locs1 : List Loc) (ι1 : Int → Nat) (lsr1 : Array Slot) (str1 : List Value), mv_Rl D s bs base ι1 c'.1 h' H1 locs1 (mv_m y).2.2.1 lsr1 str1 ls' st' → (∀ j : Int, 0 ≤ j → j < c.1 → ι1 j = ι j) → W p l e R s m args below meth cd H1 locs1 (cells + (c'.2.1 - c.2.1)) (slots + (c'.2.2 - c.2.2)) Q (F0 m pc' lsr1 str1)) : W p l e R s m args below meth cd H locs cells slots Q (F0 m pc lsr str) := by
  obtain ⟨hx, hb, hml, hret, hlk, hown, hnm, hxt, hst0, hF⟩ := id X
  obtain ⟨ws, hP, hD, hS, hw, hl, hst⟩ := rel
  have hd := mv_dec hg
  simp only [mv_step] at hs
  obtain ⟨x1, x2, r, rfl, hs9⟩ := mv_j2_spec hs
  obtain ⟨q1, rfl, hst1⟩ := mv_rs_j hst
  obtain ⟨q2, rfl, hst2⟩ := mv_rs_j hst1
  cases hs9
  have K0 : ∀ lsr1 str1, mv_rl ι c.1 bs ls (mv_m y).2.2.1 lsr1 → mv_rs ι c.1 bs (((1 : Nat), x1 + x2) :: r) str1 → W p l e R s m args below meth cd H locs cells slots Q (F0 m (pc + 1) lsr1 str1) := fun lsr1 str1 r1 r2 => by
    have := K H locs ι lsr1 str1 ⟨ws, hP, hD, hS, hw, r1, r2⟩ (fun _ _ _ => rfl)
    simpa only [Nat.sub_self, Nat.add_zero] using this
  refine lv_ladd hx hb hd ?_
  exact K0 _ _ hl ⟨by show Value.long _ = Value.long _; rw [Int64.ofInt_add], hst2⟩
theorem mv_w_lsub {c c' : mv_C} {h' : mv_H} {pc' : Nat} {ls' st' : List mv_V}  (X : mv_Cx p l m args meth cd y D bs base L xs s) (hg : mv_get (mv_m y).1 pc = some (.lsub, a)) (hs : mv_step ((L : Int), fun j => (xs j.toNat).toInt) pc (.lsub) a ls st c h = some (pc', ls', st', c', h'))
    (rel : mv_Rl D s bs base ι c.1 h H locs (mv_m y).2.2.1 lsr str ls st) (hcs : cells + (c'.2.1 - c.2.1) ≤ R.cells) (hss : slots + (c'.2.2 - c.2.2) ≤ R.slots)
    (K : ∀ (H1 : Heap) (locs1 : List Loc) (ι1 : Int → Nat) (lsr1 : Array Slot) (str1 : List Value), mv_Rl D s bs base ι1 c'.1 h' H1 locs1 (mv_m y).2.2.1 lsr1 str1 ls' st' → (∀ j : Int, 0 ≤ j → j < c.1 → ι1 j = ι j) → W p l e R s m args below meth cd H1 locs1 (cells + (c'.2.1 - c.2.1)) (slots + (c'.2.2 - c.2.2)) Q (F0 m pc' lsr1 str1)) : W p l e R s m args below meth cd H locs cells slots Q (F0 m pc lsr str) := by
  obtain ⟨hx, hb, hml, hret, hlk, hown, hnm, hxt, hst0, hF⟩ := id X
  obtain ⟨ws, hP, hD, hS, hw, hl, hst⟩ := rel
  have hd := mv_dec hg
  simp only [mv_step] at hs
  obtain ⟨x1, x2, r, rfl, hs9⟩ := mv_j2_spec hs
  obtain ⟨q1, rfl, hst1⟩ := mv_rs_j hst
  obtain ⟨q2, rfl, hst2⟩ := mv_rs_j hst1
  cases hs9
  have K0 : ∀ lsr1 str1, mv_rl ι c.1 bs ls (mv_m y).2.2.1 lsr1 → mv_rs ι c.1 bs (((1 : Nat), x1 - x2) :: r) str1 → W p l e R s m args below meth cd H locs cells slots Q (F0 m (pc + 1) lsr1 str1) := fun lsr1 str1 r1 r2 => by
    have := K H locs ι lsr1 str1 ⟨ws, hP, hD, hS, hw, r1, r2⟩ (fun _ _ _ => rfl)
    simpa only [Nat.sub_self, Nat.add_zero] using this
  refine lv_lsub hx hb hd ?_
  exact K0 _ _ hl ⟨by show Value.long _ = Value.long _; rw [Int64.ofInt_sub], hst2⟩
theorem mv_w_lmul {c c' : mv_C} {h' : mv_H} {pc' : Nat} {ls' st' : List mv_V}  (X : mv_Cx p l m args meth cd y D bs base L xs s) (hg : mv_get (mv_m y).1 pc = some (.lmul, a)) (hs : mv_step ((L : Int), fun j => (xs j.toNat).toInt) pc (.lmul) a ls st c h = some (pc', ls', st', c', h'))
    (rel : mv_Rl D s bs base ι c.1 h H locs (mv_m y).2.2.1 lsr str ls st) (hcs : cells + (c'.2.1 - c.2.1) ≤ R.cells) (hss : slots + (c'.2.2 - c.2.2) ≤ R.slots)
    (K : ∀ (H1 : Heap) (locs1 : List Loc) (ι1 : Int → Nat) (lsr1 : Array Slot) (str1 : List Value), mv_Rl D s bs base ι1 c'.1 h' H1 locs1 (mv_m y).2.2.1 lsr1 str1 ls' st' → (∀ j : Int, 0 ≤ j → j < c.1 → ι1 j = ι j) → W p l e R s m args below meth cd H1 locs1 (cells + (c'.2.1 - c.2.1)) (slots + (c'.2.2 - c.2.2)) Q (F0 m pc' lsr1 str1)) : W p l e R s m args below meth cd H locs cells slots Q (F0 m pc lsr str) := by
  obtain ⟨hx, hb, hml, hret, hlk, hown, hnm, hxt, hst0, hF⟩ := id X
  obtain ⟨ws, hP, hD, hS, hw, hl, hst⟩ := rel
  have hd := mv_dec hg
  simp only [mv_step] at hs
  obtain ⟨x1, x2, r, rfl, hs9⟩ := mv_j2_spec hs
  obtain ⟨q1, rfl, hst1⟩ := mv_rs_j hst
  obtain ⟨q2, rfl, hst2⟩ := mv_rs_j hst1
  cases hs9
  have K0 : ∀ lsr1 str1, mv_rl ι c.1 bs ls (mv_m y).2.2.1 lsr1 → mv_rs ι c.1 bs (((1 : Nat), x1 * x2) :: r) str1 → W p l e R s m args below meth cd H locs cells slots Q (F0 m (pc + 1) lsr1 str1) := fun lsr1 str1 r1 r2 => by
    have := K H locs ι lsr1 str1 ⟨ws, hP, hD, hS, hw, r1, r2⟩ (fun _ _ _ => rfl)
    simpa only [Nat.sub_self, Nat.add_zero] using this
  refine lv_lmul hx hb hd ?_
  exact K0 _ _ hl ⟨by show Value.long _ = Value.long _; rw [Int64.ofInt_mul], hst2⟩
theorem mv_w_idiv {c c' : mv_C} {h' : mv_H} {pc' : Nat} {ls' st' : List mv_V}  (X : mv_Cx p l m args meth cd y D bs base L xs s) (hg : mv_get (mv_m y).1 pc = some (.idiv, a)) (hs : mv_step ((L : Int), fun j => (xs j.toNat).toInt) pc (.idiv) a ls st c h = some (pc', ls', st', c', h'))
    (rel : mv_Rl D s bs base ι c.1 h H locs (mv_m y).2.2.1 lsr str ls st) (hcs : cells + (c'.2.1 - c.2.1) ≤ R.cells) (hss : slots + (c'.2.2 - c.2.2) ≤ R.slots)
    (K : ∀ (H1 : Heap) (locs1 : List Loc) (ι1 : Int → Nat) (lsr1 : Array Slot) (str1 : List Value), mv_Rl D s bs base ι1 c'.1 h' H1 locs1 (mv_m y).2.2.1 lsr1 str1 ls' st' → (∀ j : Int, 0 ≤ j → j < c.1 → ι1 j = ι j) → W p l e R s m args below meth cd H1 locs1 (cells + (c'.2.1 - c.2.1)) (slots + (c'.2.2 - c.2.2)) Q (F0 m pc' lsr1 str1)) : W p l e R s m args below meth cd H locs cells slots Q (F0 m pc lsr str) := by
  obtain ⟨hx, hb, hml, hret, hlk, hown, hnm, hxt, hst0, hF⟩ := id X
  obtain ⟨ws, hP, hD, hS, hw, hl, hst⟩ := rel
  have hd := mv_dec hg
  simp only [mv_step] at hs
  obtain ⟨x1, x2, r, rfl, hs9⟩ := mv_b2_spec hs
  obtain ⟨q1, rfl, hst1⟩ := mv_rs_i hst
  obtain ⟨q2, rfl, hst2⟩ := mv_rs_i hst1
  split at hs9
  · cases hs9
    rename_i hr
    have K0 : ∀ lsr1 str1, mv_rl ι c.1 bs ls (mv_m y).2.2.1 lsr1 → mv_rs ι c.1 bs (((0 : Nat), x1.tdiv x2) :: r) str1 → W p l e R s m args below meth cd H locs cells slots Q (F0 m (pc + 1) lsr1 str1) := fun lsr1 str1 r1 r2 => by
      have := K H locs ι lsr1 str1 ⟨ws, hP, hD, hS, hw, r1, r2⟩ (fun _ _ _ => rfl)
      simpa only [Nat.sub_self, Nat.add_zero] using this
    refine lv_idiv hx hb hd (nu_nz hr.2.1 hr.2.2) ?_
    exact K0 _ _ hl ⟨by show Value.int _ = Value.int _; rw [nu_div hr.1 hr.2.1 hr.2.2], hst2⟩
  · cases hs9
theorem mv_w_irem {c c' : mv_C} {h' : mv_H} {pc' : Nat} {ls' st' : List mv_V}  (X : mv_Cx p l m args meth cd y D bs base L xs s) (hg : mv_get (mv_m y).1 pc = some (.irem, a)) (hs : mv_step ((L : Int), fun j => (xs j.toNat).toInt) pc (.irem) a ls st c h = some (pc', ls', st', c', h'))
    (rel : mv_Rl D s bs base ι c.1 h H locs (mv_m y).2.2.1 lsr str ls st) (hcs : cells + (c'.2.1 - c.2.1) ≤ R.cells) (hss : slots + (c'.2.2 - c.2.2) ≤ R.slots)
    (K : ∀ (H1 : Heap) (locs1 : List Loc) (ι1 : Int → Nat) (lsr1 : Array Slot) (str1 : List Value), mv_Rl D s bs base ι1 c'.1 h' H1 locs1 (mv_m y).2.2.1 lsr1 str1 ls' st' → (∀ j : Int, 0 ≤ j → j < c.1 → ι1 j = ι j) → W p l e R s m args below meth cd H1 locs1 (cells + (c'.2.1 - c.2.1)) (slots + (c'.2.2 - c.2.2)) Q (F0 m pc' lsr1 str1)) : W p l e R s m args below meth cd H locs cells slots Q (F0 m pc lsr str) := by
  obtain ⟨hx, hb, hml, hret, hlk, hown, hnm, hxt, hst0, hF⟩ := id X
  obtain ⟨ws, hP, hD, hS, hw, hl, hst⟩ := rel
  have hd := mv_dec hg
  simp only [mv_step] at hs
  obtain ⟨x1, x2, r, rfl, hs9⟩ := mv_b2_spec hs
  obtain ⟨q1, rfl, hst1⟩ := mv_rs_i hst
  obtain ⟨q2, rfl, hst2⟩ := mv_rs_i hst1
  split at hs9
  · cases hs9
    rename_i hr
    have K0 : ∀ lsr1 str1, mv_rl ι c.1 bs ls (mv_m y).2.2.1 lsr1 → mv_rs ι c.1 bs (((0 : Nat), x1.tmod x2) :: r) str1 → W p l e R s m args below meth cd H locs cells slots Q (F0 m (pc + 1) lsr1 str1) := fun lsr1 str1 r1 r2 => by
      have := K H locs ι lsr1 str1 ⟨ws, hP, hD, hS, hw, r1, r2⟩ (fun _ _ _ => rfl)
      simpa only [Nat.sub_self, Nat.add_zero] using this
    refine lv_irem hx hb hd (nu_nz hr.2.1 hr.2.2) ?_
    exact K0 _ _ hl ⟨by show Value.int _ = Value.int _; rw [nu_rem hr.1 hr.2.1 hr.2.2], hst2⟩
  · cases hs9
theorem mv_w_ldiv {c c' : mv_C} {h' : mv_H} {pc' : Nat} {ls' st' : List mv_V}  (X : mv_Cx p l m args meth cd y D bs base L xs s) (hg : mv_get (mv_m y).1 pc = some (.ldiv, a)) (hs : mv_step ((L : Int), fun j => (xs j.toNat).toInt) pc (.ldiv) a ls st c h = some (pc', ls', st', c', h'))
    (rel : mv_Rl D s bs base ι c.1 h H locs (mv_m y).2.2.1 lsr str ls st) (hcs : cells + (c'.2.1 - c.2.1) ≤ R.cells) (hss : slots + (c'.2.2 - c.2.2) ≤ R.slots)
    (K : ∀ (H1 : Heap) (locs1 : List Loc) (ι1 : Int → Nat) (lsr1 : Array Slot) (str1 : List Value), mv_Rl D s bs base ι1 c'.1 h' H1 locs1 (mv_m y).2.2.1 lsr1 str1 ls' st' → (∀ j : Int, 0 ≤ j → j < c.1 → ι1 j = ι j) → W p l e R s m args below meth cd H1 locs1 (cells + (c'.2.1 - c.2.1)) (slots + (c'.2.2 - c.2.2)) Q (F0 m pc' lsr1 str1)) : W p l e R s m args below meth cd H locs cells slots Q (F0 m pc lsr str) := by
  obtain ⟨hx, hb, hml, hret, hlk, hown, hnm, hxt, hst0, hF⟩ := id X
  obtain ⟨ws, hP, hD, hS, hw, hl, hst⟩ := rel
  have hd := mv_dec hg
  simp only [mv_step] at hs
  obtain ⟨x1, x2, r, rfl, hs9⟩ := mv_j2_spec hs
  obtain ⟨q1, rfl, hst1⟩ := mv_rs_j hst
  obtain ⟨q2, rfl, hst2⟩ := mv_rs_j hst1
  split at hs9
  · cases hs9
    rename_i hr
    have K0 : ∀ lsr1 str1, mv_rl ι c.1 bs ls (mv_m y).2.2.1 lsr1 → mv_rs ι c.1 bs (((1 : Nat), x1.tdiv x2) :: r) str1 → W p l e R s m args below meth cd H locs cells slots Q (F0 m (pc + 1) lsr1 str1) := fun lsr1 str1 r1 r2 => by
      have := K H locs ι lsr1 str1 ⟨ws, hP, hD, hS, hw, r1, r2⟩ (fun _ _ _ => rfl)
      simpa only [Nat.sub_self, Nat.add_zero] using this
    refine lv_ldiv hx hb hd (nu_nzl hr.2.1 hr.2.2) ?_
    exact K0 _ _ hl ⟨by show Value.long _ = Value.long _; rw [nu_divl hr.1 hr.2.1 hr.2.2], hst2⟩
  · cases hs9
theorem mv_w_lrem {c c' : mv_C} {h' : mv_H} {pc' : Nat} {ls' st' : List mv_V}  (X : mv_Cx p l m args meth cd y D bs base L xs s) (hg : mv_get (mv_m y).1 pc = some (.lrem, a)) (hs : mv_step ((L : Int), fun j => (xs j.toNat).toInt) pc (.lrem) a ls st c h = some (pc', ls', st', c', h'))
    (rel : mv_Rl D s bs base ι c.1 h H locs (mv_m y).2.2.1 lsr str ls st) (hcs : cells + (c'.2.1 - c.2.1) ≤ R.cells) (hss : slots + (c'.2.2 - c.2.2) ≤ R.slots)
    (K : ∀ (H1 : Heap) (locs1 : List Loc) (ι1 : Int → Nat) (lsr1 : Array Slot) (str1 : List Value), mv_Rl D s bs base ι1 c'.1 h' H1 locs1 (mv_m y).2.2.1 lsr1 str1 ls' st' → (∀ j : Int, 0 ≤ j → j < c.1 → ι1 j = ι j) → W p l e R s m args below meth cd H1 locs1 (cells + (c'.2.1 - c.2.1)) (slots + (c'.2.2 - c.2.2)) Q (F0 m pc' lsr1 str1)) : W p l e R s m args below meth cd H locs cells slots Q (F0 m pc lsr str) := by
  obtain ⟨hx, hb, hml, hret, hlk, hown, hnm, hxt, hst0, hF⟩ := id X
  obtain ⟨ws, hP, hD, hS, hw, hl, hst⟩ := rel
  have hd := mv_dec hg
  simp only [mv_step] at hs
  obtain ⟨x1, x2, r, rfl, hs9⟩ := mv_j2_spec hs
  obtain ⟨q1, rfl, hst1⟩ := mv_rs_j hst
  obtain ⟨q2, rfl, hst2⟩ := mv_rs_j hst1
  split at hs9
  · cases hs9
    rename_i hr
    have K0 : ∀ lsr1 str1, mv_rl ι c.1 bs ls (mv_m y).2.2.1 lsr1 → mv_rs ι c.1 bs (((1 : Nat), x1.tmod x2) :: r) str1 → W p l e R s m args below meth cd H locs cells slots Q (F0 m (pc + 1) lsr1 str1) := fun lsr1 str1 r1 r2 => by
      have := K H locs ι lsr1 str1 ⟨ws, hP, hD, hS, hw, r1, r2⟩ (fun _ _ _ => rfl)
      simpa only [Nat.sub_self, Nat.add_zero] using this
    refine lv_lrem hx hb hd (nu_nzl hr.2.1 hr.2.2) ?_
    exact K0 _ _ hl ⟨by show Value.long _ = Value.long _; rw [nu_reml hr.1 hr.2.1 hr.2.2], hst2⟩
  · cases hs9
theorem mv_w_ishl {c c' : mv_C} {h' : mv_H} {pc' : Nat} {ls' st' : List mv_V}  (X : mv_Cx p l m args meth cd y D bs base L xs s) (hg : mv_get (mv_m y).1 pc = some (.ishl, a)) (hs : mv_step ((L : Int), fun j => (xs j.toNat).toInt) pc (.ishl) a ls st c h = some (pc', ls', st', c', h'))
    (rel : mv_Rl D s bs base ι c.1 h H locs (mv_m y).2.2.1 lsr str ls st) (hcs : cells + (c'.2.1 - c.2.1) ≤ R.cells) (hss : slots + (c'.2.2 - c.2.2) ≤ R.slots)
    (K : ∀ (H1 : Heap) (locs1 : List Loc) (ι1 : Int → Nat) (lsr1 : Array Slot) (str1 : List Value), mv_Rl D s bs base ι1 c'.1 h' H1 locs1 (mv_m y).2.2.1 lsr1 str1 ls' st' → (∀ j : Int, 0 ≤ j → j < c.1 → ι1 j = ι j) → W p l e R s m args below meth cd H1 locs1 (cells + (c'.2.1 - c.2.1)) (slots + (c'.2.2 - c.2.2)) Q (F0 m pc' lsr1 str1)) : W p l e R s m args below meth cd H locs cells slots Q (F0 m pc lsr str) := by
  obtain ⟨hx, hb, hml, hret, hlk, hown, hnm, hxt, hst0, hF⟩ := id X
  obtain ⟨ws, hP, hD, hS, hw, hl, hst⟩ := rel
  have hd := mv_dec hg
  simp only [mv_step] at hs
  obtain ⟨x1, x2, r, rfl, hs9⟩ := mv_b2_spec hs
  obtain ⟨q1, rfl, hst1⟩ := mv_rs_i hst
  obtain ⟨q2, rfl, hst2⟩ := mv_rs_i hst1
  split at hs9
  · cases hs9
    rename_i hr
    have K0 : ∀ lsr1 str1, mv_rl ι c.1 bs ls (mv_m y).2.2.1 lsr1 → mv_rs ι c.1 bs (((0 : Nat), x1 * 2 ^ x2.toNat) :: r) str1 → W p l e R s m args below meth cd H locs cells slots Q (F0 m (pc + 1) lsr1 str1) := fun lsr1 str1 r1 r2 => by
      have := K H locs ι lsr1 str1 ⟨ws, hP, hD, hS, hw, r1, r2⟩ (fun _ _ _ => rfl)
      simpa only [Nat.sub_self, Nat.add_zero] using this
    refine lv_ishl hx hb hd ?_
    exact K0 _ _ hl ⟨by show Value.int _ = Value.int _; rw [nu_shl hr.1 hr.2], hst2⟩
  · cases hs9
theorem mv_w_ishr {c c' : mv_C} {h' : mv_H} {pc' : Nat} {ls' st' : List mv_V}  (X : mv_Cx p l m args meth cd y D bs base L xs s) (hg : mv_get (mv_m y).1 pc = some (.ishr, a)) (hs : mv_step ((L : Int), fun j => (xs j.toNat).toInt) pc (.ishr) a ls st c h = some (pc', ls', st', c', h'))
    (rel : mv_Rl D s bs base ι c.1 h H locs (mv_m y).2.2.1 lsr str ls st) (hcs : cells + (c'.2.1 - c.2.1) ≤ R.cells) (hss : slots + (c'.2.2 - c.2.2) ≤ R.slots)
    (K : ∀ (H1 : Heap) (locs1 : List Loc) (ι1 : Int → Nat) (lsr1 : Array Slot) (str1 : List Value), mv_Rl D s bs base ι1 c'.1 h' H1 locs1 (mv_m y).2.2.1 lsr1 str1 ls' st' → (∀ j : Int, 0 ≤ j → j < c.1 → ι1 j = ι j) → W p l e R s m args below meth cd H1 locs1 (cells + (c'.2.1 - c.2.1)) (slots + (c'.2.2 - c.2.2)) Q (F0 m pc' lsr1 str1)) : W p l e R s m args below meth cd H locs cells slots Q (F0 m pc lsr str) := by
  obtain ⟨hx, hb, hml, hret, hlk, hown, hnm, hxt, hst0, hF⟩ := id X
  obtain ⟨ws, hP, hD, hS, hw, hl, hst⟩ := rel
  have hd := mv_dec hg
  simp only [mv_step] at hs
  obtain ⟨x1, x2, r, rfl, hs9⟩ := mv_b2_spec hs
  obtain ⟨q1, rfl, hst1⟩ := mv_rs_i hst
  obtain ⟨q2, rfl, hst2⟩ := mv_rs_i hst1
  split at hs9
  · cases hs9
    rename_i hr
    have K0 : ∀ lsr1 str1, mv_rl ι c.1 bs ls (mv_m y).2.2.1 lsr1 → mv_rs ι c.1 bs (((0 : Nat), x1 / 2 ^ x2.toNat) :: r) str1 → W p l e R s m args below meth cd H locs cells slots Q (F0 m (pc + 1) lsr1 str1) := fun lsr1 str1 r1 r2 => by
      have := K H locs ι lsr1 str1 ⟨ws, hP, hD, hS, hw, r1, r2⟩ (fun _ _ _ => rfl)
      simpa only [Nat.sub_self, Nat.add_zero] using this
    refine lv_ishr hx hb hd ?_
    exact K0 _ _ hl ⟨by show Value.int _ = Value.int _; rw [nu_shr hr.1 hr.2.1 hr.2.2], hst2⟩
  · cases hs9
theorem mv_w_ior {c c' : mv_C} {h' : mv_H} {pc' : Nat} {ls' st' : List mv_V}  (X : mv_Cx p l m args meth cd y D bs base L xs s) (hg : mv_get (mv_m y).1 pc = some (.ior, a)) (hs : mv_step ((L : Int), fun j => (xs j.toNat).toInt) pc (.ior) a ls st c h = some (pc', ls', st', c', h'))
    (rel : mv_Rl D s bs base ι c.1 h H locs (mv_m y).2.2.1 lsr str ls st) (hcs : cells + (c'.2.1 - c.2.1) ≤ R.cells) (hss : slots + (c'.2.2 - c.2.2) ≤ R.slots)
    (K : ∀ (H1 : Heap) (locs1 : List Loc) (ι1 : Int → Nat) (lsr1 : Array Slot) (str1 : List Value), mv_Rl D s bs base ι1 c'.1 h' H1 locs1 (mv_m y).2.2.1 lsr1 str1 ls' st' → (∀ j : Int, 0 ≤ j → j < c.1 → ι1 j = ι j) → W p l e R s m args below meth cd H1 locs1 (cells + (c'.2.1 - c.2.1)) (slots + (c'.2.2 - c.2.2)) Q (F0 m pc' lsr1 str1)) : W p l e R s m args below meth cd H locs cells slots Q (F0 m pc lsr str) := by
  obtain ⟨hx, hb, hml, hret, hlk, hown, hnm, hxt, hst0, hF⟩ := id X
  obtain ⟨ws, hP, hD, hS, hw, hl, hst⟩ := rel
  have hd := mv_dec hg
  simp only [mv_step] at hs
  obtain ⟨x1, x2, r, rfl, hs9⟩ := mv_b2_spec hs
  obtain ⟨q1, rfl, hst1⟩ := mv_rs_i hst
  obtain ⟨q2, rfl, hst2⟩ := mv_rs_i hst1
  split at hs9
  · cases hs9
    rename_i hr
    have K0 : ∀ lsr1 str1, mv_rl ι c.1 bs ls (mv_m y).2.2.1 lsr1 → mv_rs ι c.1 bs (((0 : Nat), ((x1.toNat ||| x2.toNat : Nat) : Int)) :: r) str1 → W p l e R s m args below meth cd H locs cells slots Q (F0 m (pc + 1) lsr1 str1) := fun lsr1 str1 r1 r2 => by
      have := K H locs ι lsr1 str1 ⟨ws, hP, hD, hS, hw, r1, r2⟩ (fun _ _ _ => rfl)
      simpa only [Nat.sub_self, Nat.add_zero] using this
    refine lv_ior hx hb hd ?_
    exact K0 _ _ hl ⟨by show Value.int _ = Value.int _; rw [nu_or hr.1 hr.2.1 hr.2.2.1 hr.2.2.2], hst2⟩
  · cases hs9
theorem mv_w_ixor {c c' : mv_C} {h' : mv_H} {pc' : Nat} {ls' st' : List mv_V}  (X : mv_Cx p l m args meth cd y D bs base L xs s) (hg : mv_get (mv_m y).1 pc = some (.ixor, a)) (hs : mv_step ((L : Int), fun j => (xs j.toNat).toInt) pc (.ixor) a ls st c h = some (pc', ls', st', c', h'))
    (rel : mv_Rl D s bs base ι c.1 h H locs (mv_m y).2.2.1 lsr str ls st) (hcs : cells + (c'.2.1 - c.2.1) ≤ R.cells) (hss : slots + (c'.2.2 - c.2.2) ≤ R.slots)
    (K : ∀ (H1 : Heap) (locs1 : List Loc) (ι1 : Int → Nat) (lsr1 : Array Slot) (str1 : List Value), mv_Rl D s bs base ι1 c'.1 h' H1 locs1 (mv_m y).2.2.1 lsr1 str1 ls' st' → (∀ j : Int, 0 ≤ j → j < c.1 → ι1 j = ι j) → W p l e R s m args below meth cd H1 locs1 (cells + (c'.2.1 - c.2.1)) (slots + (c'.2.2 - c.2.2)) Q (F0 m pc' lsr1 str1)) : W p l e R s m args below meth cd H locs cells slots Q (F0 m pc lsr str) := by
  obtain ⟨hx, hb, hml, hret, hlk, hown, hnm, hxt, hst0, hF⟩ := id X
  obtain ⟨ws, hP, hD, hS, hw, hl, hst⟩ := rel
  have hd := mv_dec hg
  simp only [mv_step] at hs
  obtain ⟨x1, x2, r, rfl, hs9⟩ := mv_b2_spec hs
  obtain ⟨q1, rfl, hst1⟩ := mv_rs_i hst
  obtain ⟨q2, rfl, hst2⟩ := mv_rs_i hst1
  split at hs9
  · cases hs9
    rename_i hr
    have K0 : ∀ lsr1 str1, mv_rl ι c.1 bs ls (mv_m y).2.2.1 lsr1 → mv_rs ι c.1 bs (((0 : Nat), ((x1.toNat ^^^ x2.toNat : Nat) : Int)) :: r) str1 → W p l e R s m args below meth cd H locs cells slots Q (F0 m (pc + 1) lsr1 str1) := fun lsr1 str1 r1 r2 => by
      have := K H locs ι lsr1 str1 ⟨ws, hP, hD, hS, hw, r1, r2⟩ (fun _ _ _ => rfl)
      simpa only [Nat.sub_self, Nat.add_zero] using this
    refine lv_ixor hx hb hd ?_
    exact K0 _ _ hl ⟨by show Value.int _ = Value.int _; rw [nu_xor hr.1 hr.2.1 hr.2.2.1 hr.2.2.2], hst2⟩
  · cases hs9
theorem mv_w_iand {c c' : mv_C} {h' : mv_H} {pc' : Nat} {ls' st' : List mv_V}  (X : mv_Cx p l m args meth cd y D bs base L xs s) (hg : mv_get (mv_m y).1 pc = some (.iand, a)) (hs : mv_step ((L : Int), fun j => (xs j.toNat).toInt) pc (.iand) a ls st c h = some (pc', ls', st', c', h'))
    (rel : mv_Rl D s bs base ι c.1 h H locs (mv_m y).2.2.1 lsr str ls st) (hcs : cells + (c'.2.1 - c.2.1) ≤ R.cells) (hss : slots + (c'.2.2 - c.2.2) ≤ R.slots)
    (K : ∀ (H1 : Heap) (locs1 : List Loc) (ι1 : Int → Nat) (lsr1 : Array Slot) (str1 : List Value), mv_Rl D s bs base ι1 c'.1 h' H1 locs1 (mv_m y).2.2.1 lsr1 str1 ls' st' → (∀ j : Int, 0 ≤ j → j < c.1 → ι1 j = ι j) → W p l e R s m args below meth cd H1 locs1 (cells + (c'.2.1 - c.2.1)) (slots + (c'.2.2 - c.2.2)) Q (F0 m pc' lsr1 str1)) : W p l e R s m args below meth cd H locs cells slots Q (F0 m pc lsr str) := by
  obtain ⟨hx, hb, hml, hret, hlk, hown, hnm, hxt, hst0, hF⟩ := id X
  obtain ⟨ws, hP, hD, hS, hw, hl, hst⟩ := rel
  have hd := mv_dec hg
  simp only [mv_step] at hs
  obtain ⟨x1, x2, r, rfl, hs9⟩ := mv_b2_spec hs
  obtain ⟨q1, rfl, hst1⟩ := mv_rs_i hst
  obtain ⟨q2, rfl, hst2⟩ := mv_rs_i hst1
  split at hs9
  · cases hs9
    rename_i hr
    have K0 : ∀ lsr1 str1, mv_rl ι c.1 bs ls (mv_m y).2.2.1 lsr1 → mv_rs ι c.1 bs (((0 : Nat), x1 % (x2 + 1)) :: r) str1 → W p l e R s m args below meth cd H locs cells slots Q (F0 m (pc + 1) lsr1 str1) := fun lsr1 str1 r1 r2 => by
      have := K H locs ι lsr1 str1 ⟨ws, hP, hD, hS, hw, r1, r2⟩ (fun _ _ _ => rfl)
      simpa only [Nat.sub_self, Nat.add_zero] using this
    refine lv_iand hx hb hd ?_
    exact K0 _ _ hl ⟨by show Value.int _ = Value.int _; rw [nu_and hr], hst2⟩
  · cases hs9
theorem mv_w_land {c c' : mv_C} {h' : mv_H} {pc' : Nat} {ls' st' : List mv_V}  (X : mv_Cx p l m args meth cd y D bs base L xs s) (hg : mv_get (mv_m y).1 pc = some (.land, a)) (hs : mv_step ((L : Int), fun j => (xs j.toNat).toInt) pc (.land) a ls st c h = some (pc', ls', st', c', h'))
    (rel : mv_Rl D s bs base ι c.1 h H locs (mv_m y).2.2.1 lsr str ls st) (hcs : cells + (c'.2.1 - c.2.1) ≤ R.cells) (hss : slots + (c'.2.2 - c.2.2) ≤ R.slots)
    (K : ∀ (H1 : Heap) (locs1 : List Loc) (ι1 : Int → Nat) (lsr1 : Array Slot) (str1 : List Value), mv_Rl D s bs base ι1 c'.1 h' H1 locs1 (mv_m y).2.2.1 lsr1 str1 ls' st' → (∀ j : Int, 0 ≤ j → j < c.1 → ι1 j = ι j) → W p l e R s m args below meth cd H1 locs1 (cells + (c'.2.1 - c.2.1)) (slots + (c'.2.2 - c.2.2)) Q (F0 m pc' lsr1 str1)) : W p l e R s m args below meth cd H locs cells slots Q (F0 m pc lsr str) := by
  obtain ⟨hx, hb, hml, hret, hlk, hown, hnm, hxt, hst0, hF⟩ := id X
  obtain ⟨ws, hP, hD, hS, hw, hl, hst⟩ := rel
  have hd := mv_dec hg
  simp only [mv_step] at hs
  obtain ⟨x1, x2, r, rfl, hs9⟩ := mv_j2_spec hs
  obtain ⟨q1, rfl, hst1⟩ := mv_rs_j hst
  obtain ⟨q2, rfl, hst2⟩ := mv_rs_j hst1
  split at hs9
  · cases hs9
    rename_i hr
    have K0 : ∀ lsr1 str1, mv_rl ι c.1 bs ls (mv_m y).2.2.1 lsr1 → mv_rs ι c.1 bs (((1 : Nat), x1 % 4294967296) :: r) str1 → W p l e R s m args below meth cd H locs cells slots Q (F0 m (pc + 1) lsr1 str1) := fun lsr1 str1 r1 r2 => by
      have := K H locs ι lsr1 str1 ⟨ws, hP, hD, hS, hw, r1, r2⟩ (fun _ _ _ => rfl)
      simpa only [Nat.sub_self, Nat.add_zero] using this
    refine lv_land hx hb hd ?_
    exact K0 _ _ hl ⟨by show Value.long _ = Value.long _; rw [hr, nu_landm], hst2⟩
  · cases hs9
theorem mv_w_lor {c c' : mv_C} {h' : mv_H} {pc' : Nat} {ls' st' : List mv_V}  (X : mv_Cx p l m args meth cd y D bs base L xs s) (hg : mv_get (mv_m y).1 pc = some (.lor, a)) (hs : mv_step ((L : Int), fun j => (xs j.toNat).toInt) pc (.lor) a ls st c h = some (pc', ls', st', c', h'))
    (rel : mv_Rl D s bs base ι c.1 h H locs (mv_m y).2.2.1 lsr str ls st) (hcs : cells + (c'.2.1 - c.2.1) ≤ R.cells) (hss : slots + (c'.2.2 - c.2.2) ≤ R.slots)
    (K : ∀ (H1 : Heap) (locs1 : List Loc) (ι1 : Int → Nat) (lsr1 : Array Slot) (str1 : List Value), mv_Rl D s bs base ι1 c'.1 h' H1 locs1 (mv_m y).2.2.1 lsr1 str1 ls' st' → (∀ j : Int, 0 ≤ j → j < c.1 → ι1 j = ι j) → W p l e R s m args below meth cd H1 locs1 (cells + (c'.2.1 - c.2.1)) (slots + (c'.2.2 - c.2.2)) Q (F0 m pc' lsr1 str1)) : W p l e R s m args below meth cd H locs cells slots Q (F0 m pc lsr str) := by
  obtain ⟨hx, hb, hml, hret, hlk, hown, hnm, hxt, hst0, hF⟩ := id X
  obtain ⟨ws, hP, hD, hS, hw, hl, hst⟩ := rel
  have hd := mv_dec hg
  simp only [mv_step] at hs
  obtain ⟨x1, x2, r, rfl, hs9⟩ := mv_j2_spec hs
  obtain ⟨q1, rfl, hst1⟩ := mv_rs_j hst
  obtain ⟨q2, rfl, hst2⟩ := mv_rs_j hst1
  split at hs9
  · cases hs9
    rename_i hr
    have K0 : ∀ lsr1 str1, mv_rl ι c.1 bs ls (mv_m y).2.2.1 lsr1 → mv_rs ι c.1 bs (((1 : Nat), x1 + x2) :: r) str1 → W p l e R s m args below meth cd H locs cells slots Q (F0 m (pc + 1) lsr1 str1) := fun lsr1 str1 r1 r2 => by
      have := K H locs ι lsr1 str1 ⟨ws, hP, hD, hS, hw, r1, r2⟩ (fun _ _ _ => rfl)
      simpa only [Nat.sub_self, Nat.add_zero] using this
    refine lv_lor hx hb hd ?_
    exact K0 _ _ hl ⟨by show Value.long _ = Value.long _; rw [nu_lor hr.1 hr.2.1 hr.2.2], hst2⟩
  · cases hs9
theorem mv_w_lcmp {c c' : mv_C} {h' : mv_H} {pc' : Nat} {ls' st' : List mv_V}  (X : mv_Cx p l m args meth cd y D bs base L xs s) (hg : mv_get (mv_m y).1 pc = some (.lcmp, a)) (hs : mv_step ((L : Int), fun j => (xs j.toNat).toInt) pc (.lcmp) a ls st c h = some (pc', ls', st', c', h'))
    (rel : mv_Rl D s bs base ι c.1 h H locs (mv_m y).2.2.1 lsr str ls st) (hcs : cells + (c'.2.1 - c.2.1) ≤ R.cells) (hss : slots + (c'.2.2 - c.2.2) ≤ R.slots)
    (K : ∀ (H1 : Heap) (locs1 : List Loc) (ι1 : Int → Nat) (lsr1 : Array Slot) (str1 : List Value), mv_Rl D s bs base ι1 c'.1 h' H1 locs1 (mv_m y).2.2.1 lsr1 str1 ls' st' → (∀ j : Int, 0 ≤ j → j < c.1 → ι1 j = ι j) → W p l e R s m args below meth cd H1 locs1 (cells + (c'.2.1 - c.2.1)) (slots + (c'.2.2 - c.2.2)) Q (F0 m pc' lsr1 str1)) : W p l e R s m args below meth cd H locs cells slots Q (F0 m pc lsr str) := by
  obtain ⟨hx, hb, hml, hret, hlk, hown, hnm, hxt, hst0, hF⟩ := id X
  obtain ⟨ws, hP, hD, hS, hw, hl, hst⟩ := rel
  have hd := mv_dec hg
  simp only [mv_step] at hs
  obtain ⟨x1, x2, r, rfl, hs9⟩ := mv_j2_spec hs
  obtain ⟨q1, rfl, hst1⟩ := mv_rs_j hst
  obtain ⟨q2, rfl, hst2⟩ := mv_rs_j hst1
  split at hs9
  · cases hs9
    rename_i hr
    have K0 : ∀ lsr1 str1, mv_rl ι c.1 bs ls (mv_m y).2.2.1 lsr1 → mv_rs ι c.1 bs (((0 : Nat), mv_cL x1 x2) :: r) str1 → W p l e R s m args below meth cd H locs cells slots Q (F0 m (pc + 1) lsr1 str1) := fun lsr1 str1 r1 r2 => by
      have := K H locs ι lsr1 str1 ⟨ws, hP, hD, hS, hw, r1, r2⟩ (fun _ _ _ => rfl)
      simpa only [Nat.sub_self, Nat.add_zero] using this
    refine W.lcmp hx hb hd ?_
    exact K0 _ _ hl ⟨by show Value.int _ = Value.int _; rw [nu_lcmp hr.1 hr.2], hst2⟩
  · cases hs9
theorem mv_w_lshl {c c' : mv_C} {h' : mv_H} {pc' : Nat} {ls' st' : List mv_V}  (X : mv_Cx p l m args meth cd y D bs base L xs s) (hg : mv_get (mv_m y).1 pc = some (.lshl, a)) (hs : mv_step ((L : Int), fun j => (xs j.toNat).toInt) pc (.lshl) a ls st c h = some (pc', ls', st', c', h'))
    (rel : mv_Rl D s bs base ι c.1 h H locs (mv_m y).2.2.1 lsr str ls st) (hcs : cells + (c'.2.1 - c.2.1) ≤ R.cells) (hss : slots + (c'.2.2 - c.2.2) ≤ R.slots)
    (K : ∀ (H1 : Heap) (locs1 : List Loc) (ι1 : Int → Nat) (lsr1 : Array Slot) (str1 : List Value), mv_Rl D s bs base ι1 c'.1 h' H1 locs1 (mv_m y).2.2.1 lsr1 str1 ls' st' → (∀ j : Int, 0 ≤ j → j < c.1 → ι1 j = ι j) → W p l e R s m args below meth cd H1 locs1 (cells + (c'.2.1 - c.2.1)) (slots + (c'.2.2 - c.2.2)) Q (F0 m pc' lsr1 str1)) : W p l e R s m args below meth cd H locs cells slots Q (F0 m pc lsr str) := by
  obtain ⟨hx, hb, hml, hret, hlk, hown, hnm, hxt, hst0, hF⟩ := id X
  obtain ⟨ws, hP, hD, hS, hw, hl, hst⟩ := rel
  have hd := mv_dec hg
  simp only [mv_step] at hs
  split at hs
  · rename_i x2 x1 r
    obtain ⟨q1, rfl, hst1⟩ := mv_rs_i hst
    obtain ⟨q2, rfl, hst2⟩ := mv_rs_j hst1
    split at hs
    · cases hs
      rename_i hr
      have K0 : ∀ lsr1 str1, mv_rl ι c.1 bs ls (mv_m y).2.2.1 lsr1 → mv_rs ι c.1 bs (((1 : Nat), x1 * 2 ^ x2.toNat) :: r) str1 → W p l e R s m args below meth cd H locs cells slots Q (F0 m (pc + 1) lsr1 str1) := fun lsr1 str1 r1 r2 => by
        have := K H locs ι lsr1 str1 ⟨ws, hP, hD, hS, hw, r1, r2⟩ (fun _ _ _ => rfl)
        simpa only [Nat.sub_self, Nat.add_zero] using this
      refine lv_lshl hx hb hd rfl ?_
      exact K0 _ _ hl ⟨by show Value.long _ = Value.long _; rw [nu_lshl hr.1 hr.2], hst2⟩
    · cases hs
  · cases hs
theorem mv_w_lushr {c c' : mv_C} {h' : mv_H} {pc' : Nat} {ls' st' : List mv_V}  (X : mv_Cx p l m args meth cd y D bs base L xs s) (hg : mv_get (mv_m y).1 pc = some (.lushr, a)) (hs : mv_step ((L : Int), fun j => (xs j.toNat).toInt) pc (.lushr) a ls st c h = some (pc', ls', st', c', h'))
    (rel : mv_Rl D s bs base ι c.1 h H locs (mv_m y).2.2.1 lsr str ls st) (hcs : cells + (c'.2.1 - c.2.1) ≤ R.cells) (hss : slots + (c'.2.2 - c.2.2) ≤ R.slots)
    (K : ∀ (H1 : Heap) (locs1 : List Loc) (ι1 : Int → Nat) (lsr1 : Array Slot) (str1 : List Value), mv_Rl D s bs base ι1 c'.1 h' H1 locs1 (mv_m y).2.2.1 lsr1 str1 ls' st' → (∀ j : Int, 0 ≤ j → j < c.1 → ι1 j = ι j) → W p l e R s m args below meth cd H1 locs1 (cells + (c'.2.1 - c.2.1)) (slots + (c'.2.2 - c.2.2)) Q (F0 m pc' lsr1 str1)) : W p l e R s m args below meth cd H locs cells slots Q (F0 m pc lsr str) := by
  obtain ⟨hx, hb, hml, hret, hlk, hown, hnm, hxt, hst0, hF⟩ := id X
  obtain ⟨ws, hP, hD, hS, hw, hl, hst⟩ := rel
  have hd := mv_dec hg
  simp only [mv_step] at hs
  split at hs
  · rename_i x2 x1 r
    obtain ⟨q1, rfl, hst1⟩ := mv_rs_i hst
    obtain ⟨q2, rfl, hst2⟩ := mv_rs_j hst1
    split at hs
    · cases hs
      rename_i hr
      have K0 : ∀ lsr1 str1, mv_rl ι c.1 bs ls (mv_m y).2.2.1 lsr1 → mv_rs ι c.1 bs (((1 : Nat), (x1 % 18446744073709551616) / 2 ^ x2.toNat) :: r) str1 → W p l e R s m args below meth cd H locs cells slots Q (F0 m (pc + 1) lsr1 str1) := fun lsr1 str1 r1 r2 => by
        have := K H locs ι lsr1 str1 ⟨ws, hP, hD, hS, hw, r1, r2⟩ (fun _ _ _ => rfl)
        simpa only [Nat.sub_self, Nat.add_zero] using this
      refine lv_lushr hx hb hd rfl ?_
      exact K0 _ _ hl ⟨by show Value.long _ = Value.long _; rw [nu_lushr hr.1 hr.2], hst2⟩
    · cases hs
  · cases hs
theorem mv_w_i2l {c c' : mv_C} {h' : mv_H} {pc' : Nat} {ls' st' : List mv_V}  (X : mv_Cx p l m args meth cd y D bs base L xs s) (hg : mv_get (mv_m y).1 pc = some (.i2l, a)) (hs : mv_step ((L : Int), fun j => (xs j.toNat).toInt) pc (.i2l) a ls st c h = some (pc', ls', st', c', h'))
    (rel : mv_Rl D s bs base ι c.1 h H locs (mv_m y).2.2.1 lsr str ls st) (hcs : cells + (c'.2.1 - c.2.1) ≤ R.cells) (hss : slots + (c'.2.2 - c.2.2) ≤ R.slots)
    (K : ∀ (H1 : Heap) (locs1 : List Loc) (ι1 : Int → Nat) (lsr1 : Array Slot) (str1 : List Value), mv_Rl D s bs base ι1 c'.1 h' H1 locs1 (mv_m y).2.2.1 lsr1 str1 ls' st' → (∀ j : Int, 0 ≤ j → j < c.1 → ι1 j = ι j) → W p l e R s m args below meth cd H1 locs1 (cells + (c'.2.1 - c.2.1)) (slots + (c'.2.2 - c.2.2)) Q (F0 m pc' lsr1 str1)) : W p l e R s m args below meth cd H locs cells slots Q (F0 m pc lsr str) := by
  obtain ⟨hx, hb, hml, hret, hlk, hown, hnm, hxt, hst0, hF⟩ := id X
  obtain ⟨ws, hP, hD, hS, hw, hl, hst⟩ := rel
  have hd := mv_dec hg
  simp only [mv_step] at hs
  split at hs
  · rename_i x1 r
    obtain ⟨q1, rfl, hst1⟩ := mv_rs_i hst
    split at hs
    · cases hs
      rename_i hr
      have K0 : ∀ lsr1 str1, mv_rl ι c.1 bs ls (mv_m y).2.2.1 lsr1 → mv_rs ι c.1 bs ((1, x1) :: r) str1 → W p l e R s m args below meth cd H locs cells slots Q (F0 m (pc + 1) lsr1 str1) := fun lsr1 str1 r1 r2 => by
        have := K H locs ι lsr1 str1 ⟨ws, hP, hD, hS, hw, r1, r2⟩ (fun _ _ _ => rfl)
        simpa only [Nat.sub_self, Nat.add_zero] using this
      refine lv_i2l hx hb hd rfl ?_
      exact K0 _ _ hl ⟨by show Value.long _ = Value.long _; rw [nu_i2l hr], hst1⟩
    · cases hs
  · cases hs
theorem mv_w_l2i {c c' : mv_C} {h' : mv_H} {pc' : Nat} {ls' st' : List mv_V}  (X : mv_Cx p l m args meth cd y D bs base L xs s) (hg : mv_get (mv_m y).1 pc = some (.l2i, a)) (hs : mv_step ((L : Int), fun j => (xs j.toNat).toInt) pc (.l2i) a ls st c h = some (pc', ls', st', c', h'))
    (rel : mv_Rl D s bs base ι c.1 h H locs (mv_m y).2.2.1 lsr str ls st) (hcs : cells + (c'.2.1 - c.2.1) ≤ R.cells) (hss : slots + (c'.2.2 - c.2.2) ≤ R.slots)
    (K : ∀ (H1 : Heap) (locs1 : List Loc) (ι1 : Int → Nat) (lsr1 : Array Slot) (str1 : List Value), mv_Rl D s bs base ι1 c'.1 h' H1 locs1 (mv_m y).2.2.1 lsr1 str1 ls' st' → (∀ j : Int, 0 ≤ j → j < c.1 → ι1 j = ι j) → W p l e R s m args below meth cd H1 locs1 (cells + (c'.2.1 - c.2.1)) (slots + (c'.2.2 - c.2.2)) Q (F0 m pc' lsr1 str1)) : W p l e R s m args below meth cd H locs cells slots Q (F0 m pc lsr str) := by
  obtain ⟨hx, hb, hml, hret, hlk, hown, hnm, hxt, hst0, hF⟩ := id X
  obtain ⟨ws, hP, hD, hS, hw, hl, hst⟩ := rel
  have hd := mv_dec hg
  simp only [mv_step] at hs
  split at hs
  · rename_i x1 r
    obtain ⟨q1, rfl, hst1⟩ := mv_rs_j hst
    cases hs
    have K0 : ∀ lsr1 str1, mv_rl ι c.1 bs ls (mv_m y).2.2.1 lsr1 → mv_rs ι c.1 bs ((0, x1) :: r) str1 → W p l e R s m args below meth cd H locs cells slots Q (F0 m (pc + 1) lsr1 str1) := fun lsr1 str1 r1 r2 => by
      have := K H locs ι lsr1 str1 ⟨ws, hP, hD, hS, hw, r1, r2⟩ (fun _ _ _ => rfl)
      simpa only [Nat.sub_self, Nat.add_zero] using this
    refine lv_l2i hx hb hd rfl ?_
    exact K0 _ _ hl ⟨by show Value.int _ = Value.int _; rw [nu_l2i], hst1⟩
  · cases hs
theorem mv_w_i2c {c c' : mv_C} {h' : mv_H} {pc' : Nat} {ls' st' : List mv_V}  (X : mv_Cx p l m args meth cd y D bs base L xs s) (hg : mv_get (mv_m y).1 pc = some (.i2c, a)) (hs : mv_step ((L : Int), fun j => (xs j.toNat).toInt) pc (.i2c) a ls st c h = some (pc', ls', st', c', h'))
    (rel : mv_Rl D s bs base ι c.1 h H locs (mv_m y).2.2.1 lsr str ls st) (hcs : cells + (c'.2.1 - c.2.1) ≤ R.cells) (hss : slots + (c'.2.2 - c.2.2) ≤ R.slots)
    (K : ∀ (H1 : Heap) (locs1 : List Loc) (ι1 : Int → Nat) (lsr1 : Array Slot) (str1 : List Value), mv_Rl D s bs base ι1 c'.1 h' H1 locs1 (mv_m y).2.2.1 lsr1 str1 ls' st' → (∀ j : Int, 0 ≤ j → j < c.1 → ι1 j = ι j) → W p l e R s m args below meth cd H1 locs1 (cells + (c'.2.1 - c.2.1)) (slots + (c'.2.2 - c.2.2)) Q (F0 m pc' lsr1 str1)) : W p l e R s m args below meth cd H locs cells slots Q (F0 m pc lsr str) := by
  obtain ⟨hx, hb, hml, hret, hlk, hown, hnm, hxt, hst0, hF⟩ := id X
  obtain ⟨ws, hP, hD, hS, hw, hl, hst⟩ := rel
  have hd := mv_dec hg
  simp only [mv_step] at hs
  split at hs
  · rename_i x1 r
    obtain ⟨q1, rfl, hst1⟩ := mv_rs_i hst
    split at hs
    · cases hs
      rename_i hr
      have K0 : ∀ lsr1 str1, mv_rl ι c.1 bs ls (mv_m y).2.2.1 lsr1 → mv_rs ι c.1 bs ((0, x1) :: r) str1 → W p l e R s m args below meth cd H locs cells slots Q (F0 m (pc + 1) lsr1 str1) := fun lsr1 str1 r1 r2 => by
        have := K H locs ι lsr1 str1 ⟨ws, hP, hD, hS, hw, r1, r2⟩ (fun _ _ _ => rfl)
        simpa only [Nat.sub_self, Nat.add_zero] using this
      refine lv_i2c hx hb hd rfl ?_
      exact K0 _ _ hl ⟨by show Value.int _ = Value.int _; rw [nu_i2c hr.1 hr.2], hst1⟩
    · cases hs
  · cases hs
theorem mv_w_pop {c c' : mv_C} {h' : mv_H} {pc' : Nat} {ls' st' : List mv_V}  (X : mv_Cx p l m args meth cd y D bs base L xs s) (hg : mv_get (mv_m y).1 pc = some (.pop, a)) (hs : mv_step ((L : Int), fun j => (xs j.toNat).toInt) pc (.pop) a ls st c h = some (pc', ls', st', c', h'))
    (rel : mv_Rl D s bs base ι c.1 h H locs (mv_m y).2.2.1 lsr str ls st) (hcs : cells + (c'.2.1 - c.2.1) ≤ R.cells) (hss : slots + (c'.2.2 - c.2.2) ≤ R.slots)
    (K : ∀ (H1 : Heap) (locs1 : List Loc) (ι1 : Int → Nat) (lsr1 : Array Slot) (str1 : List Value), mv_Rl D s bs base ι1 c'.1 h' H1 locs1 (mv_m y).2.2.1 lsr1 str1 ls' st' → (∀ j : Int, 0 ≤ j → j < c.1 → ι1 j = ι j) → W p l e R s m args below meth cd H1 locs1 (cells + (c'.2.1 - c.2.1)) (slots + (c'.2.2 - c.2.2)) Q (F0 m pc' lsr1 str1)) : W p l e R s m args below meth cd H locs cells slots Q (F0 m pc lsr str) := by
  obtain ⟨hx, hb, hml, hret, hlk, hown, hnm, hxt, hst0, hF⟩ := id X
  obtain ⟨ws, hP, hD, hS, hw, hl, hst⟩ := rel
  have hd := mv_dec hg
  simp only [mv_step] at hs
  split at hs
  · rename_i v r
    split at hs
    · cases hs
      rename_i hr
      obtain ⟨x, q, rfl, hx2, hq⟩ := mv_rs_c hst
      have K0 : ∀ lsr1 str1, mv_rl ι c.1 bs ls (mv_m y).2.2.1 lsr1 → mv_rs ι c.1 bs st' str1 → W p l e R s m args below meth cd H locs cells slots Q (F0 m (pc + 1) lsr1 str1) := fun lsr1 str1 r1 r2 => by
        have := K H locs ι lsr1 str1 ⟨ws, hP, hD, hS, hw, r1, r2⟩ (fun _ _ _ => rfl)
        simpa only [Nat.sub_self, Nat.add_zero] using this
      exact lv_pop hx hb hd (mv_rv_cat hx2 (by omega)) (K0 _ _ hl hq)
    · cases hs
  · cases hs
theorem mv_w_dup {c c' : mv_C} {h' : mv_H} {pc' : Nat} {ls' st' : List mv_V}  (X : mv_Cx p l m args meth cd y D bs base L xs s) (hg : mv_get (mv_m y).1 pc = some (.dup, a)) (hs : mv_step ((L : Int), fun j => (xs j.toNat).toInt) pc (.dup) a ls st c h = some (pc', ls', st', c', h'))
    (rel : mv_Rl D s bs base ι c.1 h H locs (mv_m y).2.2.1 lsr str ls st) (hcs : cells + (c'.2.1 - c.2.1) ≤ R.cells) (hss : slots + (c'.2.2 - c.2.2) ≤ R.slots)
    (K : ∀ (H1 : Heap) (locs1 : List Loc) (ι1 : Int → Nat) (lsr1 : Array Slot) (str1 : List Value), mv_Rl D s bs base ι1 c'.1 h' H1 locs1 (mv_m y).2.2.1 lsr1 str1 ls' st' → (∀ j : Int, 0 ≤ j → j < c.1 → ι1 j = ι j) → W p l e R s m args below meth cd H1 locs1 (cells + (c'.2.1 - c.2.1)) (slots + (c'.2.2 - c.2.2)) Q (F0 m pc' lsr1 str1)) : W p l e R s m args below meth cd H locs cells slots Q (F0 m pc lsr str) := by
  obtain ⟨hx, hb, hml, hret, hlk, hown, hnm, hxt, hst0, hF⟩ := id X
  obtain ⟨ws, hP, hD, hS, hw, hl, hst⟩ := rel
  have hd := mv_dec hg
  simp only [mv_step] at hs
  split at hs
  · rename_i v r
    split at hs
    · cases hs
      rename_i hr
      obtain ⟨x, q, rfl, hx2, hq⟩ := mv_rs_c hst
      have K0 : ∀ lsr1 str1, mv_rl ι c.1 bs ls (mv_m y).2.2.1 lsr1 → mv_rs ι c.1 bs (v :: v :: r) str1 → W p l e R s m args below meth cd H locs cells slots Q (F0 m (pc + 1) lsr1 str1) := fun lsr1 str1 r1 r2 => by
        have := K H locs ι lsr1 str1 ⟨ws, hP, hD, hS, hw, r1, r2⟩ (fun _ _ _ => rfl)
        simpa only [Nat.sub_self, Nat.add_zero] using this
      exact lv_dup hx hb hd (mv_rv_cat hx2 (by omega)) (K0 _ _ hl ⟨hx2, hx2, hq⟩)
    · cases hs
  · cases hs
theorem mv_w_dup2 {c c' : mv_C} {h' : mv_H} {pc' : Nat} {ls' st' : List mv_V}  (X : mv_Cx p l m args meth cd y D bs base L xs s) (hg : mv_get (mv_m y).1 pc = some (.dup2, a)) (hs : mv_step ((L : Int), fun j => (xs j.toNat).toInt) pc (.dup2) a ls st c h = some (pc', ls', st', c', h'))
    (rel : mv_Rl D s bs base ι c.1 h H locs (mv_m y).2.2.1 lsr str ls st) (hcs : cells + (c'.2.1 - c.2.1) ≤ R.cells) (hss : slots + (c'.2.2 - c.2.2) ≤ R.slots)
    (K : ∀ (H1 : Heap) (locs1 : List Loc) (ι1 : Int → Nat) (lsr1 : Array Slot) (str1 : List Value), mv_Rl D s bs base ι1 c'.1 h' H1 locs1 (mv_m y).2.2.1 lsr1 str1 ls' st' → (∀ j : Int, 0 ≤ j → j < c.1 → ι1 j = ι j) → W p l e R s m args below meth cd H1 locs1 (cells + (c'.2.1 - c.2.1)) (slots + (c'.2.2 - c.2.2)) Q (F0 m pc' lsr1 str1)) : W p l e R s m args below meth cd H locs cells slots Q (F0 m pc lsr str) := by
  obtain ⟨hx, hb, hml, hret, hlk, hown, hnm, hxt, hst0, hF⟩ := id X
  obtain ⟨ws, hP, hD, hS, hw, hl, hst⟩ := rel
  have hd := mv_dec hg
  simp only [mv_step] at hs
  split at hs
  · rename_i v w r
    split at hs
    · cases hs
      rename_i hr
      obtain ⟨x, q, rfl, hx2, hq⟩ := mv_rs_c hst
      obtain ⟨x', q', rfl, hx2', hq'⟩ := mv_rs_c hq
      have K0 : ∀ lsr1 str1, mv_rl ι c.1 bs ls (mv_m y).2.2.1 lsr1 → mv_rs ι c.1 bs (v :: w :: v :: w :: r) str1 → W p l e R s m args below meth cd H locs cells slots Q (F0 m (pc + 1) lsr1 str1) := fun lsr1 str1 r1 r2 => by
        have := K H locs ι lsr1 str1 ⟨ws, hP, hD, hS, hw, r1, r2⟩ (fun _ _ _ => rfl)
        simpa only [Nat.sub_self, Nat.add_zero] using this
      exact lv_dup2_11 hx hb hd (mv_rv_cat hx2 (by omega)) (mv_rv_cat hx2' (by omega)) (K0 _ _ hl ⟨hx2, hx2', hx2, hx2', hq'⟩)
    · cases hs
  · cases hs
theorem mv_w_goto {c c' : mv_C} {h' : mv_H} {pc' : Nat} {ls' st' : List mv_V} {off : Int} (X : mv_Cx p l m args meth cd y D bs base L xs s) (hg : mv_get (mv_m y).1 pc = some (.goto off, a)) (hs : mv_step ((L : Int), fun j => (xs j.toNat).toInt) pc (.goto off) a ls st c h = some (pc', ls', st', c', h'))
    (rel : mv_Rl D s bs base ι c.1 h H locs (mv_m y).2.2.1 lsr str ls st) (hcs : cells + (c'.2.1 - c.2.1) ≤ R.cells) (hss : slots + (c'.2.2 - c.2.2) ≤ R.slots)
    (K : ∀ (H1 : Heap) (locs1 : List Loc) (ι1 : Int → Nat) (lsr1 : Array Slot) (str1 : List Value), mv_Rl D s bs base ι1 c'.1 h' H1 locs1 (mv_m y).2.2.1 lsr1 str1 ls' st' → (∀ j : Int, 0 ≤ j → j < c.1 → ι1 j = ι j) → W p l e R s m args below meth cd H1 locs1 (cells + (c'.2.1 - c.2.1)) (slots + (c'.2.2 - c.2.2)) Q (F0 m pc' lsr1 str1)) : W p l e R s m args below meth cd H locs cells slots Q (F0 m pc lsr str) := by
  obtain ⟨hx, hb, hml, hret, hlk, hown, hnm, hxt, hst0, hF⟩ := id X
  obtain ⟨ws, hP, hD, hS, hw, hl, hst⟩ := rel
  have hd := mv_dec hg
  simp only [mv_step] at hs
  obtain ⟨t, h1, h2⟩ := mv_jmp_spec hs
  cases h2
  have K0 : ∀ lsr1 str1, mv_rl ι c.1 bs ls (mv_m y).2.2.1 lsr1 → mv_rs ι c.1 bs st str1 → W p l e R s m args below meth cd H locs cells slots Q (F0 m pc' lsr1 str1) := fun lsr1 str1 r1 r2 => by
    have := K H locs ι lsr1 str1 ⟨ws, hP, hD, hS, hw, r1, r2⟩ (fun _ _ _ => rfl)
    simpa only [Nat.sub_self, Nat.add_zero] using this
  exact lv_goto hx hb hd h1 (K0 _ _ hl hst)
theorem mv_w_ifCond {c c' : mv_C} {h' : mv_H} {pc' : Nat} {ls' st' : List mv_V} {kk : ClassFile.Cond} {off : Int} (X : mv_Cx p l m args meth cd y D bs base L xs s) (hg : mv_get (mv_m y).1 pc = some (.ifCond kk off, a)) (hs : mv_step ((L : Int), fun j => (xs j.toNat).toInt) pc (.ifCond kk off) a ls st c h = some (pc', ls', st', c', h'))
    (rel : mv_Rl D s bs base ι c.1 h H locs (mv_m y).2.2.1 lsr str ls st) (hcs : cells + (c'.2.1 - c.2.1) ≤ R.cells) (hss : slots + (c'.2.2 - c.2.2) ≤ R.slots)
    (K : ∀ (H1 : Heap) (locs1 : List Loc) (ι1 : Int → Nat) (lsr1 : Array Slot) (str1 : List Value), mv_Rl D s bs base ι1 c'.1 h' H1 locs1 (mv_m y).2.2.1 lsr1 str1 ls' st' → (∀ j : Int, 0 ≤ j → j < c.1 → ι1 j = ι j) → W p l e R s m args below meth cd H1 locs1 (cells + (c'.2.1 - c.2.1)) (slots + (c'.2.2 - c.2.2)) Q (F0 m pc' lsr1 str1)) : W p l e R s m args below meth cd H locs cells slots Q (F0 m pc lsr str) := by
  obtain ⟨hx, hb, hml, hret, hlk, hown, hnm, hxt, hst0, hF⟩ := id X
  obtain ⟨ws, hP, hD, hS, hw, hl, hst⟩ := rel
  have hd := mv_dec hg
  simp only [mv_step] at hs
  split at hs
  · rename_i x1 r
    obtain ⟨q1, rfl, hst1⟩ := mv_rs_i hst
    split at hs
    · rename_i hr
      have ht : (pc : Int) + off = (((pc : Int) + off).toNat : Int) := (Int.toNat_of_nonneg hr.2).symm
      have K1 : mv_cmp kk x1 0 = true → W p l e R s m args below meth cd H locs cells slots Q (F0 m ((pc : Int) + off).toNat lsr q1) := fun hc => by
        rw [if_pos hc] at hs
        cases hs
        have := K H locs ι lsr q1 ⟨ws, hP, hD, hS, hw, hl, hst1⟩ (fun _ _ _ => rfl)
        simpa only [Nat.sub_self, Nat.add_zero] using this
      have K2 : ¬ mv_cmp kk x1 0 = true → W p l e R s m args below meth cd H locs cells slots Q (F0 m (pc + 3) lsr q1) := fun hc => by
        rw [if_neg hc] at hs
        cases hs
        have := K H locs ι lsr q1 ⟨ws, hP, hD, hS, hw, hl, hst1⟩ (fun _ _ _ => rfl)
        simpa only [Nat.sub_self, Nat.add_zero] using this
      cases kk with
      | eq => exact lv_if_eq hx hb hd ht (fun hy => K1 (decide_eq_true ((nu_eq0 hr.1).mp hy))) (fun hn => K2 (fun z => hn ((nu_eq0 hr.1).mpr (of_decide_eq_true z))))
      | ne => exact lv_if_ne hx hb hd ht (fun hy => K1 (decide_eq_true ((nu_ne0 hr.1).mp hy))) (fun hn => K2 (fun z => of_decide_eq_true z ((nu_eq0 hr.1).mp hn)))
      | lt => exact lv_if_lt hx hb hd ht (fun hy => K1 (decide_eq_true ((nu_lt0 hr.1).mp hy))) (fun hn => K2 (fun z => hn ((nu_lt0 hr.1).mpr (of_decide_eq_true z))))
      | ge => exact lv_if_ge hx hb hd ht (fun hy => K1 (decide_eq_true ((nu_ge0 hr.1).mp hy))) (fun hn => K2 (fun z => hn ((nu_ge0 hr.1).mpr (of_decide_eq_true z))))
      | gt => exact lv_if_gt hx hb hd ht (fun hy => K1 (decide_eq_true ((nu_gt0 hr.1).mp hy))) (fun hn => K2 (fun z => hn ((nu_gt0 hr.1).mpr (of_decide_eq_true z))))
      | le => exact lv_if_le hx hb hd ht (fun hy => K1 (decide_eq_true ((nu_le0 hr.1).mp hy))) (fun hn => K2 (fun z => hn ((nu_le0 hr.1).mpr (of_decide_eq_true z))))
    · cases hs
  · cases hs
theorem mv_w_if_icmp {c c' : mv_C} {h' : mv_H} {pc' : Nat} {ls' st' : List mv_V} {kk : ClassFile.Cond} {off : Int} (X : mv_Cx p l m args meth cd y D bs base L xs s) (hg : mv_get (mv_m y).1 pc = some (.if_icmp kk off, a)) (hs : mv_step ((L : Int), fun j => (xs j.toNat).toInt) pc (.if_icmp kk off) a ls st c h = some (pc', ls', st', c', h'))
    (rel : mv_Rl D s bs base ι c.1 h H locs (mv_m y).2.2.1 lsr str ls st) (hcs : cells + (c'.2.1 - c.2.1) ≤ R.cells) (hss : slots + (c'.2.2 - c.2.2) ≤ R.slots)
    (K : ∀ (H1 : Heap) (locs1 : List Loc) (ι1 : Int → Nat) (lsr1 : Array Slot) (str1 : List Value), mv_Rl D s bs base ι1 c'.1 h' H1 locs1 (mv_m y).2.2.1 lsr1 str1 ls' st' → (∀ j : Int, 0 ≤ j → j < c.1 → ι1 j = ι j) → W p l e R s m args below meth cd H1 locs1 (cells + (c'.2.1 - c.2.1)) (slots + (c'.2.2 - c.2.2)) Q (F0 m pc' lsr1 str1)) : W p l e R s m args below meth cd H locs cells slots Q (F0 m pc lsr str) := by
  obtain ⟨hx, hb, hml, hret, hlk, hown, hnm, hxt, hst0, hF⟩ := id X
  obtain ⟨ws, hP, hD, hS, hw, hl, hst⟩ := rel
  have hd := mv_dec hg
  simp only [mv_step] at hs
  obtain ⟨x1, x2, r, rfl, hs9⟩ := mv_b2_spec hs
  clear hs
  have hs := hs9
  clear hs9
  obtain ⟨q1, rfl, hst1⟩ := mv_rs_i hst
  obtain ⟨q2, rfl, hst2⟩ := mv_rs_i hst1
  split at hs
  · rename_i hr
    have ht : (pc : Int) + off = (((pc : Int) + off).toNat : Int) := (Int.toNat_of_nonneg hr.2.2).symm
    have K1 : mv_cmp kk x1 x2 = true → W p l e R s m args below meth cd H locs cells slots Q (F0 m ((pc : Int) + off).toNat lsr q2) := fun hc => by
      rw [if_pos hc] at hs
      cases hs
      have := K H locs ι lsr q2 ⟨ws, hP, hD, hS, hw, hl, hst2⟩ (fun _ _ _ => rfl)
      simpa only [Nat.sub_self, Nat.add_zero] using this
    have K2 : ¬ mv_cmp kk x1 x2 = true → W p l e R s m args below meth cd H locs cells slots Q (F0 m (pc + 3) lsr q2) := fun hc => by
      rw [if_neg hc] at hs
      cases hs
      have := K H locs ι lsr q2 ⟨ws, hP, hD, hS, hw, hl, hst2⟩ (fun _ _ _ => rfl)
      simpa only [Nat.sub_self, Nat.add_zero] using this
    cases kk with
    | eq => exact lv_icmp_eq hx hb hd ht (fun hy => K1 (decide_eq_true ((nu_eq hr.1 hr.2.1).mp hy))) (fun hn => K2 (fun z => hn ((nu_eq hr.1 hr.2.1).mpr (of_decide_eq_true z))))
    | ne => exact lv_icmp_ne hx hb hd ht (fun hy => K1 (decide_eq_true ((not_congr (nu_eq hr.1 hr.2.1)).mp hy))) (fun hn => K2 (fun z => of_decide_eq_true z ((nu_eq hr.1 hr.2.1).mp hn)))
    | lt => exact lv_icmp_lt hx hb hd ht (fun hy => K1 (decide_eq_true ((nu_lt hr.1 hr.2.1).mp hy))) (fun hn => K2 (fun z => hn ((nu_lt hr.1 hr.2.1).mpr (of_decide_eq_true z))))
    | ge => exact lv_icmp_ge hx hb hd ht (fun hy => K1 (decide_eq_true ((nu_le hr.2.1 hr.1).mp hy))) (fun hn => K2 (fun z => hn ((nu_le hr.2.1 hr.1).mpr (of_decide_eq_true z))))
    | gt => exact lv_icmp_gt hx hb hd ht (fun hy => K1 (decide_eq_true ((nu_lt hr.2.1 hr.1).mp hy))) (fun hn => K2 (fun z => hn ((nu_lt hr.2.1 hr.1).mpr (of_decide_eq_true z))))
    | le => exact lv_icmp_le hx hb hd ht (fun hy => K1 (decide_eq_true ((nu_le hr.1 hr.2.1).mp hy))) (fun hn => K2 (fun z => hn ((nu_le hr.1 hr.2.1).mpr (of_decide_eq_true z))))
  · cases hs
theorem mv_w_tableswitch {c c' : mv_C} {h' : mv_H} {pc' : Nat} {ls' st' : List mv_V} {d lo hi : Int} {offs : Array Int} (X : mv_Cx p l m args meth cd y D bs base L xs s) (hg : mv_get (mv_m y).1 pc = some (.tableswitch d lo hi offs, a)) (hs : mv_step ((L : Int), fun j => (xs j.toNat).toInt) pc (.tableswitch d lo hi offs) a ls st c h = some (pc', ls', st', c', h'))
    (rel : mv_Rl D s bs base ι c.1 h H locs (mv_m y).2.2.1 lsr str ls st) (hcs : cells + (c'.2.1 - c.2.1) ≤ R.cells) (hss : slots + (c'.2.2 - c.2.2) ≤ R.slots)
    (K : ∀ (H1 : Heap) (locs1 : List Loc) (ι1 : Int → Nat) (lsr1 : Array Slot) (str1 : List Value), mv_Rl D s bs base ι1 c'.1 h' H1 locs1 (mv_m y).2.2.1 lsr1 str1 ls' st' → (∀ j : Int, 0 ≤ j → j < c.1 → ι1 j = ι j) → W p l e R s m args below meth cd H1 locs1 (cells + (c'.2.1 - c.2.1)) (slots + (c'.2.2 - c.2.2)) Q (F0 m pc' lsr1 str1)) : W p l e R s m args below meth cd H locs cells slots Q (F0 m pc lsr str) := by
  obtain ⟨hx, hb, hml, hret, hlk, hown, hnm, hxt, hst0, hF⟩ := id X
  obtain ⟨ws, hP, hD, hS, hw, hl, hst⟩ := rel
  have hd := mv_dec hg
  simp only [mv_step] at hs
  split at hs
  · rename_i x1 r
    obtain ⟨q1, rfl, hst1⟩ := mv_rs_i hst
    split at hs
    · rename_i hr
      have ht := nu_ti hr
      split at hs
      · rename_i hc
        obtain ⟨t, h1, h2⟩ := mv_jmp_spec hs
        cases h2
        have K0 : ∀ lsr1 str1, mv_rl ι c.1 bs ls (mv_m y).2.2.1 lsr1 → mv_rs ι c.1 bs st' str1 → W p l e R s m args below meth cd H locs cells slots Q (F0 m pc' lsr1 str1) := fun lsr1 str1 r1 r2 => by
          have := K H locs ι lsr1 str1 ⟨ws, hP, hD, hS, hw, r1, r2⟩ (fun _ _ _ => rfl)
          simpa only [Nat.sub_self, Nat.add_zero] using this
        exact lv_tableOut hx hb hd (by rw [ht]; exact hc) h1 (K0 _ _ hl hst1)
      · rename_i hc
        split at hs
        · rename_i off hoff
          obtain ⟨t, h1, h2⟩ := mv_jmp_spec hs
          cases h2
          have K0 : ∀ lsr1 str1, mv_rl ι c.1 bs ls (mv_m y).2.2.1 lsr1 → mv_rs ι c.1 bs st' str1 → W p l e R s m args below meth cd H locs cells slots Q (F0 m pc' lsr1 str1) := fun lsr1 str1 r1 r2 => by
            have := K H locs ι lsr1 str1 ⟨ws, hP, hD, hS, hw, r1, r2⟩ (fun _ _ _ => rfl)
            simpa only [Nat.sub_self, Nat.add_zero] using this
          exact lv_tableIn hx hb hd (by rw [ht]; omega) (by rw [ht]; omega) (by rw [ht]; exact hoff) h1 (K0 _ _ hl hst1)
        · cases hs
    · cases hs
  · cases hs
end STP
end
section
theorem nu_narz {x : Int} (h : x = 0 ∨ x = 1) : vp_nar .boolean (Int32.ofInt x) = Int32.ofInt x := by
  rcases h with rfl | rfl <;> rfl
/-! fields, arrays, objects made -/
theorem mv_fn5 {ci : Nat} (h : 5 ≤ ci) : mv_fn ci = 0 := by
  unfold mv_fn
  rw [List.getD_eq_getElem?_getD, List.getElem?_eq_none (by exact h)]; rfl
theorem mv_cl_at : ∀ ci, ci < 5 → mv_cl[ci]? = some (mv_cn ci, mv_cT ci, mv_fn ci)
  | 0, _ => rfl
  | 1, _ => rfl
  | 2, _ => rfl
  | 3, _ => rfl
  | 4, _ => rfl
  | k + 5, h => absurd h (by omega)
theorem mv_cT1 : ∀ ci, ci < 5 → ∀ k, (mv_cT ci k).1 = mv_cn ci
  | 0, _, k => by show (mv_T0 k).1 = "LineTemplates"; unfold mv_T0; split <;> rfl
  | 1, _, k => by show (mv_T1 k).1 = "LineTemplates$Line"; unfold mv_T1; split <;> rfl
  | 2, _, k => by show (mv_T2 k).1 = "LineTemplates$State"; unfold mv_T2; split <;> rfl
  | 3, _, k => by show (mv_T3 k).1 = "LineTemplates$History"; unfold mv_T3; split <;> rfl
  | 4, _, k => by show (mv_T4 k).1 = "LineTemplatesModel"; unfold mv_T4; split <;> rfl
  | k + 5, h, _ => absurd h (by omega)
set_option maxRecDepth 100000 in
theorem mv_uw_0 : ∀ w ∈ u_ws (mv_cn 0) (mv_cT 0) (mv_fn 0), w ∈ mv_G := by decide +kernel
set_option maxRecDepth 100000 in
theorem mv_uw_1 : ∀ w ∈ u_ws (mv_cn 1) (mv_cT 1) (mv_fn 1), w ∈ mv_G := by decide +kernel
set_option maxRecDepth 100000 in
theorem mv_uw_2 : ∀ w ∈ u_ws (mv_cn 2) (mv_cT 2) (mv_fn 2), w ∈ mv_G := by decide +kernel
set_option maxRecDepth 100000 in
theorem mv_uw_3 : ∀ w ∈ u_ws (mv_cn 3) (mv_cT 3) (mv_fn 3), w ∈ mv_G := by decide +kernel
set_option maxRecDepth 100000 in
theorem mv_uw_4 : ∀ w ∈ u_ws (mv_cn 4) (mv_cT 4) (mv_fn 4), w ∈ mv_G := by decide +kernel
theorem mv_uw : ∀ ci, ci < 5 → ∀ w ∈ u_ws (mv_cn ci) (mv_cT ci) (mv_fn ci), w ∈ mv_G
  | 0, _ => mv_uw_0
  | 1, _ => mv_uw_1
  | 2, _ => mv_uw_2
  | 3, _ => mv_uw_3
  | 4, _ => mv_uw_4
  | k + 5, h => absurd h (by omega)
def mv_ty (ci k : Nat) : FieldType := (parseFieldDescriptor (mv_cT ci k).2.2.1).getD .int
def mv_isR (t : FieldType) : Bool := match t with
  | .object _ => true
  | .array _ => true
  | _ => false
theorem mv_tq_0 : ∀ k, k < mv_fn 0 → parseFieldDescriptor (mv_cT 0 k).2.2.1 = some (mv_ty 0 k) ∧ (mv_ft 0 k = 0 ∧ mv_ty 0 k = .int ∨ mv_ft 0 k = 2 ∧ mv_isR (mv_ty 0 k) = true) := by decide +kernel
theorem mv_nq_0 : ∀ x, x < mv_fn 0 → ∀ z, z < mv_fn 0 → x ≠ z → (mv_cT 0 x).2.1 ≠ (mv_cT 0 z).2.1 := by decide +kernel
theorem mv_iq_0 : Cond.instantiable (mv_cn 0) (mv_fn 0) ∈ mv_G ∧ Cond.initialized (mv_cn 0) ∈ mv_G := by decide +kernel
theorem mv_tq_1 : ∀ k, k < mv_fn 1 → parseFieldDescriptor (mv_cT 1 k).2.2.1 = some (mv_ty 1 k) ∧ (mv_ft 1 k = 0 ∧ mv_ty 1 k = .int ∨ mv_ft 1 k = 2 ∧ mv_isR (mv_ty 1 k) = true) := by decide +kernel
theorem mv_nq_1 : ∀ x, x < mv_fn 1 → ∀ z, z < mv_fn 1 → x ≠ z → (mv_cT 1 x).2.1 ≠ (mv_cT 1 z).2.1 := by decide +kernel
theorem mv_iq_1 : Cond.instantiable (mv_cn 1) (mv_fn 1) ∈ mv_G ∧ Cond.initialized (mv_cn 1) ∈ mv_G := by decide +kernel
theorem mv_tq_2 : ∀ k, k < mv_fn 2 → parseFieldDescriptor (mv_cT 2 k).2.2.1 = some (mv_ty 2 k) ∧ (mv_ft 2 k = 0 ∧ mv_ty 2 k = .int ∨ mv_ft 2 k = 2 ∧ mv_isR (mv_ty 2 k) = true) := by decide +kernel
theorem mv_nq_2 : ∀ x, x < mv_fn 2 → ∀ z, z < mv_fn 2 → x ≠ z → (mv_cT 2 x).2.1 ≠ (mv_cT 2 z).2.1 := by decide +kernel
theorem mv_iq_2 : Cond.instantiable (mv_cn 2) (mv_fn 2) ∈ mv_G ∧ Cond.initialized (mv_cn 2) ∈ mv_G := by decide +kernel
theorem mv_tq_3 : ∀ k, k < mv_fn 3 → parseFieldDescriptor (mv_cT 3 k).2.2.1 = some (mv_ty 3 k) ∧ (mv_ft 3 k = 0 ∧ mv_ty 3 k = .int ∨ mv_ft 3 k = 2 ∧ mv_isR (mv_ty 3 k) = true) := by decide +kernel
theorem mv_nq_3 : ∀ x, x < mv_fn 3 → ∀ z, z < mv_fn 3 → x ≠ z → (mv_cT 3 x).2.1 ≠ (mv_cT 3 z).2.1 := by decide +kernel
theorem mv_iq_3 : Cond.instantiable (mv_cn 3) (mv_fn 3) ∈ mv_G ∧ Cond.initialized (mv_cn 3) ∈ mv_G := by decide +kernel
theorem mv_tq_4 : ∀ k, k < mv_fn 4 → parseFieldDescriptor (mv_cT 4 k).2.2.1 = some (mv_ty 4 k) ∧ (mv_ft 4 k = 0 ∧ mv_ty 4 k = .int ∨ mv_ft 4 k = 2 ∧ mv_isR (mv_ty 4 k) = true) := by decide +kernel
theorem mv_nq_4 : ∀ x, x < mv_fn 4 → ∀ z, z < mv_fn 4 → x ≠ z → (mv_cT 4 x).2.1 ≠ (mv_cT 4 z).2.1 := by decide +kernel
theorem mv_iq_4 : Cond.instantiable (mv_cn 4) (mv_fn 4) ∈ mv_G ∧ Cond.initialized (mv_cn 4) ∈ mv_G := by decide +kernel
theorem mv_tq : ∀ ci, ci < 5 → ∀ k, k < mv_fn ci → parseFieldDescriptor (mv_cT ci k).2.2.1 = some (mv_ty ci k) ∧ (mv_ft ci k = 0 ∧ mv_ty ci k = .int ∨ mv_ft ci k = 2 ∧ mv_isR (mv_ty ci k) = true)
  | 0, _ => mv_tq_0
  | 1, _ => mv_tq_1
  | 2, _ => mv_tq_2
  | 3, _ => mv_tq_3
  | 4, _ => mv_tq_4
  | k + 5, h => absurd h (by omega)
theorem mv_nq : ∀ ci, ci < 5 → ∀ x, x < mv_fn ci → ∀ z, z < mv_fn ci → x ≠ z → (mv_cT ci x).2.1 ≠ (mv_cT ci z).2.1
  | 0, _ => mv_nq_0
  | 1, _ => mv_nq_1
  | 2, _ => mv_nq_2
  | 3, _ => mv_nq_3
  | 4, _ => mv_nq_4
  | k + 5, h => absurd h (by omega)
theorem mv_iq : ∀ ci, ci < 5 → Cond.instantiable (mv_cn ci) (mv_fn ci) ∈ mv_G ∧ Cond.initialized (mv_cn ci) ∈ mv_G
  | 0, _ => mv_iq_0
  | 1, _ => mv_iq_1
  | 2, _ => mv_iq_2
  | 3, _ => mv_iq_3
  | 4, _ => mv_iq_4
  | k + 5, h => absurd h (by omega)
theorem mv_isR_n {t : FieldType} (h : mv_isR t = true) (v : Value) (hv : (∃ q, v = .ref q) ∨ v = .null) : narrow t v = v ∧ fits t v = true ∧ defaultValue t = .null := by
  cases t <;> simp only [mv_isR] at h <;> first | (cases h; done) | (rcases hv with ⟨q, rfl⟩ | rfl <;> exact ⟨rfl, rfl, rfl⟩)
theorem mv_aw : Cond.arrayClass .int ∈ mv_G ∧ Cond.arrayClass .char ∈ mv_G ∧ Cond.arrayClass .boolean ∈ mv_G ∧ Cond.arrayClass .long ∈ mv_G := by decide +kernel
section HPS
variable {p : Program} {l : Launch} {e : Env} {R : Room} {s : State} {m : MethodId} {args : Array Value} {below : List Frame} {meth : Method} {cd : Code} {H : Heap} {locs : List Loc} {cells slots : Nat} {Q : State → Prop}
variable {y pc : Nat} {D : va_G} {bs base L : Nat} {xs : Nat → Int32} {ι : Int → Nat} {n : Nat} {h : mv_H} {lsr : Array Slot} {str : List Value} {ls st : List mv_V} {i : Instr} {a : Int}
theorem mv_K1 {cA : ClassId} {ty : FieldType} (hK : va_K D mv_cl [] s) (h1 : ArrOfT s cA ty) (h2 : va_RA s cA ty) : va_K D mv_cl [(cA, ty)] s := by
  refine ⟨hK.1, fun k q hk => ?_⟩
  match k, hk with
  | 0, hk => cases hk; exact ⟨h1, h2⟩
  | k + 1, hk => simp at hk
theorem mv_K2 {cA : ClassId} {ty : FieldType} (hK : va_K D mv_cl ([] ++ [(cA, ty)]) s) : ArrOfT s cA ty ∧ va_RA s cA ty := hK.2 0 (cA, ty) rfl
/-- an instance in the world -/
theorem mv_ro_c {o : mv_O} {e0 : va_E} (h0 : mv_ro s ι n o e0) {k : Nat} (hk : k < mv_fn o.1) : o.1 < 5 ∧ ∃ fs : List Value, e0 = .inr (o.1, fs) ∧ fs.length = mv_fn o.1 ∧ ∀ k : Nat, k < mv_fn o.1 → ∃ v, fs[k]? = some v ∧ mv_rf ι n (mv_ft o.1 k) (o.2.2 k) v := by
  rcases h0 with h0 | ⟨h1, -⟩
  · exact h0
  · rw [mv_fn5 (by omega)] at hk; omega
/-- an array in the world -/
theorem mv_ro_a {o : mv_O} {e0 : va_E} (h0 : mv_ro s ι n o e0) (h1 : 10 ≤ o.1) : o.1 ≤ 15 ∧ ∃ (cA : ClassId) (N : Nat) (x : vp_A), e0 = .inl (cA, x) ∧ o.2.1 = N ∧ N ≤ 100000 ∧ ArrOfT s cA (mv_kt o.1) ∧ va_RA s cA (mv_kt o.1) ∧ mv_rc0 ι n o.1 N o.2.2 x := by
  rcases h0 with ⟨h2, -⟩ | ⟨-, h2, h3⟩
  · omega
  · exact ⟨h2, h3⟩
theorem mv_rc_i {k N : Nat} {f : Int → Int} {x : vp_A} (h0 : mv_rc0 ι n k N f x) (hk : k < 13) : ∃ g : Nat → Int32, x = (N, .inl g) ∧ ∀ j : Nat, j < N → g j = Int32.ofInt (f j) := by
  obtain ⟨h1, ⟨-, g, h2, h3⟩ | ⟨h2, -⟩ | ⟨h2, -⟩⟩ := h0
  · exact ⟨g, by obtain ⟨x1, x2⟩ := x; cases h1; cases h2; rfl, h3⟩
  · omega
  · omega
theorem mv_rc_j {k N : Nat} {f : Int → Int} {x : vp_A} (h0 : mv_rc0 ι n k N f x) (hk : k = 13) : ∃ g : Nat → Int64, x = (N, .inr (.inl g)) ∧ ∀ j : Nat, j < N → g j = Int64.ofInt (f j) := by
  obtain ⟨h1, ⟨h2, -⟩ | ⟨-, g, h2, h3⟩ | ⟨h2, -⟩⟩ := h0
  · omega
  · exact ⟨g, by obtain ⟨x1, x2⟩ := x; cases h1; cases h2; rfl, h3⟩
  · omega
theorem mv_rc_r {k N : Nat} {f : Int → Int} {x : vp_A} (h0 : mv_rc0 ι n k N f x) (hk : 13 < k) : ∃ g : Nat → Option Nat, x = (N, .inr (.inr (.inr (.inr g)))) ∧ ∀ j : Nat, j < N → (0 ≤ f j ∧ f j < n ∧ g j = some (ι (f j))) ∨ (f j < 0 ∧ g j = none) := by
  obtain ⟨h1, ⟨h2, -⟩ | ⟨h2, -⟩ | ⟨-, g, h2, h3⟩⟩ := h0
  · omega
  · omega
  · exact ⟨g, by obtain ⟨x1, x2⟩ := x; cases h1; cases h2; rfl, h3⟩
theorem mv_upd_i {f : Int → Int} {g : Nat → Int32} {N : Nat} {j x : Int} {z : Int32} (hg : ∀ j : Nat, j < N → g j = Int32.ofInt (f j)) (h0 : 0 ≤ j) (hz : z = Int32.ofInt x) : ∀ k : Nat, k < N → upd g j.toNat z k = Int32.ofInt (mv_up f j x k) := by
  intro k hk
  unfold upd mv_up
  by_cases hkj : k = j.toNat
  · rw [if_pos hkj, if_pos (by omega)]; exact hz
  · rw [if_neg hkj, if_neg (by omega)]; exact hg k hk
theorem mv_upd_j {f : Int → Int} {g : Nat → Int64} {N : Nat} {j x : Int} {z : Int64} (hg : ∀ j : Nat, j < N → g j = Int64.ofInt (f j)) (h0 : 0 ≤ j) (hz : z = Int64.ofInt x) : ∀ k : Nat, k < N → vp_updL g j.toNat z k = Int64.ofInt (mv_up f j x k) := by
  intro k hk
  unfold vp_updL mv_up
  by_cases hkj : k = j.toNat
  · rw [if_pos hkj, if_pos (by omega)]; exact hz
  · rw [if_neg hkj, if_neg (by omega)]; exact hg k hk
theorem mv_upd_r {f : Int → Int} {g : Nat → Option Nat} {N : Nat} {j x : Int} (hg : ∀ j : Nat, j < N → (0 ≤ f j ∧ f j < n ∧ g j = some (ι (f j))) ∨ (f j < 0 ∧ g j = none)) (h0 : 0 ≤ j) (hx : 0 ≤ x) (hxn : x < n) : ∀ k : Nat, k < N → (0 ≤ mv_up f j x k ∧ mv_up f j x k < n ∧ va_up g j.toNat (some (ι x)) k = some (ι (mv_up f j x k))) ∨ (mv_up f j x k < 0 ∧ va_up g j.toNat (some (ι x)) k = none) := by
  intro k hk
  unfold va_up mv_up
  by_cases hkj : k = j.toNat
  · rw [if_pos hkj, if_pos (by omega)]; exact Or.inl ⟨hx, hxn, rfl⟩
  · rw [if_neg hkj, if_neg (by omega)]; exact hg k hk

theorem mv_w_getfield {c c' : mv_C} {h' : mv_H} {pc' : Nat} {ls' st' : List mv_V} {k : Nat} (X : mv_Cx p l m args meth cd y D bs base L xs s) (hg : mv_get (mv_m y).1 pc = some (.getfield k, a)) (hs : mv_step ((L : Int), fun j => (xs j.toNat).toInt) pc (.getfield k) a ls st c h = some (pc', ls', st', c', h'))
    (rel : mv_Rl D s bs base ι c.1 h H locs (mv_m y).2.2.1 lsr str ls st) (hcs : cells + (c'.2.1 - c.2.1) ≤ R.cells) (hss : slots + (c'.2.2 - c.2.2) ≤ R.slots)
    (K : ∀ (H1 : Heap) (locs1 : List Loc) (ι1 : Int → Nat) (lsr1 : Array Slot) (str1 : List Value), mv_Rl D s bs base ι1 c'.1 h' H1 locs1 (mv_m y).2.2.1 lsr1 str1 ls' st' → (∀ j : Int, 0 ≤ j → j < c.1 → ι1 j = ι j) → W p l e R s m args below meth cd H1 locs1 (cells + (c'.2.1 - c.2.1)) (slots + (c'.2.2 - c.2.2)) Q (F0 m pc' lsr1 str1)) : W p l e R s m args below meth cd H locs cells slots Q (F0 m pc lsr str) := by
  obtain ⟨hx, hb, hml, hret, hlk, hown, hnm, hxt, hst0, hF⟩ := id X
  obtain ⟨ws, hP, hD, hS, hw, hl, hst⟩ := rel
  have hd := mv_dec hg
  simp only [mv_step] at hs
  split at hs
  · rename_i ob r
    obtain ⟨q1, rfl, ho0, ho1, hst1⟩ := mv_rs_r hst
    split at hs
    · rename_i hc
      obtain ⟨e0, he0, hro⟩ := mv_w_at hw ho0 ho1
      obtain ⟨h5, fs, rfl, hfl, hfk⟩ := mv_ro_c hro (k := (a % 100).toNat) (by rw [hc.1]; exact hc.2)
      obtain ⟨v, hv1, hv2⟩ := hfk _ (by rw [hc.1]; exact hc.2)
      have ha : ((a % 100).toNat : Int) = a % 100 := Int.toNat_of_nonneg (Int.emod_nonneg a (by decide))
      rw [ha, hc.1] at hv2
      rw [hc.1] at he0 h5 hfl
      have hcl := mv_cl_at _ h5
      obtain ⟨pl, hpl⟩ := mv_pool hg
      have hgo : W p l e R s m args below meth cd H locs cells slots Q (F0 m (pc + 3) lsr (v :: q1)) → W p l e R s m args below meth cd H locs cells slots Q (F0 m pc lsr (.ref (ι ob) :: q1)) := fun kk => by
        match pl, hpl with
        | [q], hpl =>
          rcases (Bool.or_eq_true _ _).mp hpl with h9 | h9
          · exact va_get hx hb (fun w hw9 => hF.1 w hw9 args) (mv_uw _ h5) hown hF.2.2.1 hP _ he0 hcl (a % 100).toNat hc.2 (hF.1 _ (mv_G_in (mv_at_in h9) rfl) _) (fun x hx9 => by rw [mv_cT1 _ h5] at hx9; exact hx9) hv1 hd kk
          · exact va_getN hx hb (fun w hw9 => hF.1 w hw9 args) (mv_uw _ h5) hown hF.2.2.1 hP _ he0 hcl (a % 100).toNat hc.2 (va_Nw.use rfl (hF.2.1 _ (mv_at_in h9) rfl)) (fun x hx9 => by rw [mv_cT1 _ h5] at hx9; exact hx9) hv1 hd kk
        | [], hpl => cases hpl
        | _ :: _ :: _, hpl => cases hpl
      unfold mv_rf at hv2
      split at hs
      · rename_i ht
        rw [if_pos ht] at hv2
        cases hs
        subst hv2
        have := K H locs ι lsr (.int (Int32.ofInt ((h ob).2.2 (a % 100))) :: q1) ⟨ws, hP, hD, hS, hw, hl, ⟨rfl, hst1⟩⟩ (fun _ _ _ => rfl)
        exact hgo (by simpa only [Nat.sub_self, Nat.add_zero] using this)
      · rename_i ht
        rw [if_neg ht] at hv2
        split at hs
        · rename_i hz
          cases hs
          rcases hv2 with ⟨h7, h8, rfl⟩ | ⟨h7, -⟩
          · have := K H locs ι lsr (.ref (ι ((h ob).2.2 (a % 100))) :: q1) ⟨ws, hP, hD, hS, hw, hl, ⟨⟨h7, h8, rfl⟩, hst1⟩⟩ (fun _ _ _ => rfl)
            exact hgo (by simpa only [Nat.sub_self, Nat.add_zero] using this)
          · omega
        · cases hs
    · cases hs
  · cases hs
theorem mv_w_putfield {c c' : mv_C} {h' : mv_H} {pc' : Nat} {ls' st' : List mv_V} {k : Nat} (X : mv_Cx p l m args meth cd y D bs base L xs s) (hg : mv_get (mv_m y).1 pc = some (.putfield k, a)) (hs : mv_step ((L : Int), fun j => (xs j.toNat).toInt) pc (.putfield k) a ls st c h = some (pc', ls', st', c', h'))
    (rel : mv_Rl D s bs base ι c.1 h H locs (mv_m y).2.2.1 lsr str ls st) (hcs : cells + (c'.2.1 - c.2.1) ≤ R.cells) (hss : slots + (c'.2.2 - c.2.2) ≤ R.slots)
    (K : ∀ (H1 : Heap) (locs1 : List Loc) (ι1 : Int → Nat) (lsr1 : Array Slot) (str1 : List Value), mv_Rl D s bs base ι1 c'.1 h' H1 locs1 (mv_m y).2.2.1 lsr1 str1 ls' st' → (∀ j : Int, 0 ≤ j → j < c.1 → ι1 j = ι j) → W p l e R s m args below meth cd H1 locs1 (cells + (c'.2.1 - c.2.1)) (slots + (c'.2.2 - c.2.2)) Q (F0 m pc' lsr1 str1)) : W p l e R s m args below meth cd H locs cells slots Q (F0 m pc lsr str) := by
  obtain ⟨hx, hb, hml, hret, hlk, hown, hnm, hxt, hst0, hF⟩ := id X
  obtain ⟨ws, hP, hD, hS, hw, hl, hst⟩ := rel
  have hd := mv_dec hg
  simp only [mv_step] at hs
  split at hs
  · rename_i v ob r
    obtain ⟨x, q1, rfl, hxv, hst1⟩ := mv_rs_c hst
    obtain ⟨q2, rfl, ho0, ho1, hst2⟩ := mv_rs_r hst1
    split at hs
    · rename_i hc
      cases hs
      obtain ⟨hc1, hc2, hc3⟩ := hc
      obtain ⟨e0, he0, hro⟩ := mv_w_at hw ho0 ho1
      obtain ⟨h5, fs, rfl, hfl, hfk⟩ := mv_ro_c hro (k := (a % 100).toNat) (by rw [hc1]; exact hc2)
      have ha : ((a % 100).toNat : Int) = a % 100 := Int.toNat_of_nonneg (Int.emod_nonneg a (by decide))
      rw [hc1] at h5
      have hcl := mv_cl_at _ h5
      obtain ⟨pl, hpl⟩ := mv_pool hg
      obtain ⟨htq, hft⟩ := mv_tq _ h5 _ hc2
      have hvx : narrow (mv_ty (a / 100).toNat (a % 100).toNat) x = x ∧ fits (mv_ty (a / 100).toNat (a % 100).toNat) x = true ∧ mv_rf ι c.1 (mv_ft (a / 100).toNat (a % 100).toNat) v.2 x := by
        rcases hft with ⟨f1, f2⟩ | ⟨f1, f2⟩
        · rw [f1] at hc3
          rw [mv_v0 hc3] at hxv
          cases hxv
          rw [f2]
          exact ⟨rfl, rfl, by unfold mv_rf; rw [if_pos f1]⟩
        · rw [f1] at hc3
          rw [mv_v2 hc3] at hxv
          obtain ⟨g1, g2, rfl⟩ := hxv
          obtain ⟨g3, g4, -⟩ := mv_isR_n f2 (.ref (ι v.2)) (Or.inl ⟨_, rfl⟩)
          exact ⟨g3, g4, by unfold mv_rf; rw [if_neg (by rw [f1]; decide)]; exact Or.inl ⟨g1, g2, rfl⟩⟩
      obtain ⟨hv1, hv2, hv3⟩ := hvx
      have hro' : mv_ro s ι c.1 ((h ob).1, (h ob).2.1, mv_up (h ob).2.2 (a % 100) v.2) (.inr ((a / 100).toNat, fs.set (a % 100).toNat x)) := by
        refine Or.inl ⟨by show (h ob).1 < 5; rw [hc1]; exact h5, fs.set (a % 100).toNat x, by show _ = Sum.inr ((h ob).1, _); rw [hc1], by rw [List.length_set]; exact hfl, fun j hj => ?_⟩
        show ∃ v9, (fs.set (a % 100).toNat x)[j]? = some v9 ∧ mv_rf ι c.1 (mv_ft (h ob).1 j) (mv_up (h ob).2.2 (a % 100) v.2 j) v9
        have hj' : j < mv_fn (h ob).1 := hj
        by_cases hjk : j = (a % 100).toNat
        · subst hjk
          refine ⟨x, List.getElem?_set_self (by rw [hfl]; exact hj'), ?_⟩
          unfold mv_up
          rw [if_pos ha, hc1]; exact hv3
        · obtain ⟨v9, w1, w2⟩ := hfk j hj'
          refine ⟨v9, by rw [List.getElem?_set_ne (fun z => hjk z.symm)]; exact w1, ?_⟩
          unfold mv_up
          rw [if_neg (by omega)]; exact w2
      rw [hc1] at he0 hfl
      have hw' := mv_w_set hw ho0 ho1 hro'
      have hgo : ∀ (H1 : Heap) (locs1 : List Loc), va_P D mv_cl (ws.set ob.toNat (ι ob, .inr ((a / 100).toNat, fs.set (a % 100).toNat x))) H1 → va_D (mv_A base) (ws.set ob.toNat (ι ob, .inr ((a / 100).toNat, fs.set (a % 100).toNat x))) → va_S (mv_A base) s.heap H1 locs1 → W p l e R s m args below meth cd H1 locs1 cells slots Q (F0 m (pc + 3) lsr q2) := fun H1 locs1 hP1 hD1 hS1 => by
        have := K H1 locs1 ι lsr _ ⟨_, hP1, hD1, hS1, hw', hl, hst2⟩ (fun _ _ _ => rfl)
        simpa only [Nat.sub_self, Nat.add_zero] using this
      match pl, hpl with
      | [q], hpl =>
        obtain ⟨h9, h10⟩ := (Bool.and_eq_true _ _).mp hpl
        rcases (Bool.or_eq_true _ _).mp h10 with h11 | h11
        · exact va_put hx hb (fun w hw9 => hF.1 w hw9 args) (mv_uw _ h5) (mv_ty (a / 100).toNat) (fun k hk => (mv_tq _ h5 k hk).1) (mv_nq _ h5) hown hF.2.2.1 hP hD hS _ he0 hcl (a % 100).toNat hc2 (hF.1 _ (mv_G_in (mv_at_in h9) rfl) _) (fun x hx9 => by rw [mv_cT1 _ h5] at hx9; exact hx9) (beq_iff_eq.mp h11) htq hv1 hv2 (by rw [hfl]; exact hc2) hd hgo
        · obtain ⟨h12, h13⟩ := (Bool.and_eq_true _ _).mp h11
          have h12 := of_decide_eq_true h12
          have h13 := of_decide_eq_true h13
          cases hfin : (mv_cT (a / 100).toNat (a % 100).toNat).2.2.2 with
          | false => exact va_put hx hb (fun w hw9 => hF.1 w hw9 args) (mv_uw _ h5) (mv_ty (a / 100).toNat) (fun k hk => (mv_tq _ h5 k hk).1) (mv_nq _ h5) hown hF.2.2.1 hP hD hS _ he0 hcl (a % 100).toNat hc2 (hF.1 _ (mv_G_in (mv_at_in h9) rfl) _) (fun x hx9 => by rw [mv_cT1 _ h5] at hx9; exact hx9) hfin htq hv1 hv2 (by rw [hfl]; exact hc2) hd hgo
          | true => exact va_putF hx hb (fun w hw9 => hF.1 w hw9 args) (mv_uw _ h5) (mv_ty (a / 100).toNat) (fun k hk => (mv_tq _ h5 k hk).1) (mv_nq _ h5) hown hF.2.2.1 hP hD hS _ he0 hcl (a % 100).toNat hc2 (hF.1 _ (mv_G_in (mv_at_in h9) rfl) _) (fun x hx9 => by rw [mv_cT1 _ h5] at hx9; exact hx9) hfin (hnm h12) (by rw [mv_cT1 _ h5]; exact h13) htq hv1 hv2 (by rw [hfl]; exact hc2) hd hgo
      | [], hpl => cases hpl
      | _ :: _ :: _, hpl => cases hpl
    · cases hs
  · cases hs
theorem mv_w_caload {c c' : mv_C} {h' : mv_H} {pc' : Nat} {ls' st' : List mv_V}  (X : mv_Cx p l m args meth cd y D bs base L xs s) (hg : mv_get (mv_m y).1 pc = some (.caload, a)) (hs : mv_step ((L : Int), fun j => (xs j.toNat).toInt) pc (.caload) a ls st c h = some (pc', ls', st', c', h'))
    (rel : mv_Rl D s bs base ι c.1 h H locs (mv_m y).2.2.1 lsr str ls st) (hcs : cells + (c'.2.1 - c.2.1) ≤ R.cells) (hss : slots + (c'.2.2 - c.2.2) ≤ R.slots)
    (K : ∀ (H1 : Heap) (locs1 : List Loc) (ι1 : Int → Nat) (lsr1 : Array Slot) (str1 : List Value), mv_Rl D s bs base ι1 c'.1 h' H1 locs1 (mv_m y).2.2.1 lsr1 str1 ls' st' → (∀ j : Int, 0 ≤ j → j < c.1 → ι1 j = ι j) → W p l e R s m args below meth cd H1 locs1 (cells + (c'.2.1 - c.2.1)) (slots + (c'.2.2 - c.2.2)) Q (F0 m pc' lsr1 str1)) : W p l e R s m args below meth cd H locs cells slots Q (F0 m pc lsr str) := by
  obtain ⟨hx, hb, hml, hret, hlk, hown, hnm, hxt, hst0, hF⟩ := id X
  obtain ⟨ws, hP, hD, hS, hw, hl, hst⟩ := rel
  have hd := mv_dec hg
  simp only [mv_step] at hs
  split at hs
  · rename_i j ob r
    obtain ⟨q1, rfl, hst1⟩ := mv_rs_i hst
    obtain ⟨q2, rfl, ho0, ho1, hst2⟩ := mv_rs_r hst1
    split at hs
    · rename_i hc
      cases hs
      obtain ⟨hc1, hc2, hc3⟩ := hc
      obtain ⟨e0, he0, hro⟩ := mv_w_at hw ho0 ho1
      obtain ⟨-, cA, N, x, rfl, hN, hN2, hA1, hA2, hrc⟩ := mv_ro_a hro (by omega)
      obtain ⟨g, rfl, hgf⟩ := mv_rc_i hrc (by omega)
      rw [hN] at hc3
      have hjn : ((j.toNat : Nat) : Int) = j := Int.toNat_of_nonneg hc2
      rw [hc1] at hA1 hA2
      refine va_cald hx hb (mv_K1 hF.2.2.1 hA1 hA2) hP _ 0 he0 rfl (nu_in hc2 hc3 (by omega)) hd ?_
      rw [nu_cl hc2 (by omega), hgf j.toNat (by omega), hjn]
      have := K H locs ι lsr (.int (Int32.ofInt ((h ob).2.2 j)) :: q2) ⟨ws, hP, hD, hS, hw, hl, ⟨rfl, hst2⟩⟩ (fun _ _ _ => rfl)
      simpa only [Nat.sub_self, Nat.add_zero] using this
    · cases hs
  · cases hs
theorem mv_w_baload {c c' : mv_C} {h' : mv_H} {pc' : Nat} {ls' st' : List mv_V}  (X : mv_Cx p l m args meth cd y D bs base L xs s) (hg : mv_get (mv_m y).1 pc = some (.baload, a)) (hs : mv_step ((L : Int), fun j => (xs j.toNat).toInt) pc (.baload) a ls st c h = some (pc', ls', st', c', h'))
    (rel : mv_Rl D s bs base ι c.1 h H locs (mv_m y).2.2.1 lsr str ls st) (hcs : cells + (c'.2.1 - c.2.1) ≤ R.cells) (hss : slots + (c'.2.2 - c.2.2) ≤ R.slots)
    (K : ∀ (H1 : Heap) (locs1 : List Loc) (ι1 : Int → Nat) (lsr1 : Array Slot) (str1 : List Value), mv_Rl D s bs base ι1 c'.1 h' H1 locs1 (mv_m y).2.2.1 lsr1 str1 ls' st' → (∀ j : Int, 0 ≤ j → j < c.1 → ι1 j = ι j) → W p l e R s m args below meth cd H1 locs1 (cells + (c'.2.1 - c.2.1)) (slots + (c'.2.2 - c.2.2)) Q (F0 m pc' lsr1 str1)) : W p l e R s m args below meth cd H locs cells slots Q (F0 m pc lsr str) := by
  obtain ⟨hx, hb, hml, hret, hlk, hown, hnm, hxt, hst0, hF⟩ := id X
  obtain ⟨ws, hP, hD, hS, hw, hl, hst⟩ := rel
  have hd := mv_dec hg
  simp only [mv_step] at hs
  split at hs
  · rename_i j ob r
    obtain ⟨q1, rfl, hst1⟩ := mv_rs_i hst
    obtain ⟨q2, rfl, ho0, ho1, hst2⟩ := mv_rs_r hst1
    split at hs
    · rename_i hc
      cases hs
      obtain ⟨hc1, hc2, hc3⟩ := hc
      obtain ⟨e0, he0, hro⟩ := mv_w_at hw ho0 ho1
      obtain ⟨-, cA, N, x, rfl, hN, hN2, hA1, hA2, hrc⟩ := mv_ro_a hro (by omega)
      obtain ⟨g, rfl, hgf⟩ := mv_rc_i hrc (by omega)
      rw [hN] at hc3
      have hjn : ((j.toNat : Nat) : Int) = j := Int.toNat_of_nonneg hc2
      rw [hc1] at hA1 hA2
      refine va_zald hx hb (mv_K1 hF.2.2.1 hA1 hA2) hP _ 0 he0 rfl (nu_in hc2 hc3 (by omega)) hd ?_
      rw [nu_cl hc2 (by omega), hgf j.toNat (by omega), hjn]
      have := K H locs ι lsr (.int (Int32.ofInt ((h ob).2.2 j)) :: q2) ⟨ws, hP, hD, hS, hw, hl, ⟨rfl, hst2⟩⟩ (fun _ _ _ => rfl)
      simpa only [Nat.sub_self, Nat.add_zero] using this
    · cases hs
  · cases hs
theorem mv_w_laload {c c' : mv_C} {h' : mv_H} {pc' : Nat} {ls' st' : List mv_V}  (X : mv_Cx p l m args meth cd y D bs base L xs s) (hg : mv_get (mv_m y).1 pc = some (.laload, a)) (hs : mv_step ((L : Int), fun j => (xs j.toNat).toInt) pc (.laload) a ls st c h = some (pc', ls', st', c', h'))
    (rel : mv_Rl D s bs base ι c.1 h H locs (mv_m y).2.2.1 lsr str ls st) (hcs : cells + (c'.2.1 - c.2.1) ≤ R.cells) (hss : slots + (c'.2.2 - c.2.2) ≤ R.slots)
    (K : ∀ (H1 : Heap) (locs1 : List Loc) (ι1 : Int → Nat) (lsr1 : Array Slot) (str1 : List Value), mv_Rl D s bs base ι1 c'.1 h' H1 locs1 (mv_m y).2.2.1 lsr1 str1 ls' st' → (∀ j : Int, 0 ≤ j → j < c.1 → ι1 j = ι j) → W p l e R s m args below meth cd H1 locs1 (cells + (c'.2.1 - c.2.1)) (slots + (c'.2.2 - c.2.2)) Q (F0 m pc' lsr1 str1)) : W p l e R s m args below meth cd H locs cells slots Q (F0 m pc lsr str) := by
  obtain ⟨hx, hb, hml, hret, hlk, hown, hnm, hxt, hst0, hF⟩ := id X
  obtain ⟨ws, hP, hD, hS, hw, hl, hst⟩ := rel
  have hd := mv_dec hg
  simp only [mv_step] at hs
  split at hs
  · rename_i j ob r
    obtain ⟨q1, rfl, hst1⟩ := mv_rs_i hst
    obtain ⟨q2, rfl, ho0, ho1, hst2⟩ := mv_rs_r hst1
    split at hs
    · rename_i hc
      cases hs
      obtain ⟨hc1, hc2, hc3⟩ := hc
      obtain ⟨e0, he0, hro⟩ := mv_w_at hw ho0 ho1
      obtain ⟨-, cA, N, x, rfl, hN, hN2, hA1, hA2, hrc⟩ := mv_ro_a hro (by omega)
      obtain ⟨g, rfl, hgf⟩ := mv_rc_j hrc (by omega)
      rw [hN] at hc3
      have hjn : ((j.toNat : Nat) : Int) = j := Int.toNat_of_nonneg hc2
      rw [hc1] at hA1 hA2
      refine va_lald hx hb (mv_K1 hF.2.2.1 hA1 hA2) hP _ 0 he0 rfl (nu_in hc2 hc3 (by omega)) hd ?_
      rw [nu_cl hc2 (by omega), hgf j.toNat (by omega), hjn]
      have := K H locs ι lsr (.long (Int64.ofInt ((h ob).2.2 j)) :: q2) ⟨ws, hP, hD, hS, hw, hl, ⟨rfl, hst2⟩⟩ (fun _ _ _ => rfl)
      simpa only [Nat.sub_self, Nat.add_zero] using this
    · cases hs
  · cases hs
theorem mv_w_iaload {c c' : mv_C} {h' : mv_H} {pc' : Nat} {ls' st' : List mv_V} (hLs : L < 2147483648) (X : mv_Cx p l m args meth cd y D bs base L xs s) (hg : mv_get (mv_m y).1 pc = some (.iaload, a)) (hs : mv_step ((L : Int), fun j => (xs j.toNat).toInt) pc (.iaload) a ls st c h = some (pc', ls', st', c', h'))
    (rel : mv_Rl D s bs base ι c.1 h H locs (mv_m y).2.2.1 lsr str ls st) (hcs : cells + (c'.2.1 - c.2.1) ≤ R.cells) (hss : slots + (c'.2.2 - c.2.2) ≤ R.slots)
    (K : ∀ (H1 : Heap) (locs1 : List Loc) (ι1 : Int → Nat) (lsr1 : Array Slot) (str1 : List Value), mv_Rl D s bs base ι1 c'.1 h' H1 locs1 (mv_m y).2.2.1 lsr1 str1 ls' st' → (∀ j : Int, 0 ≤ j → j < c.1 → ι1 j = ι j) → W p l e R s m args below meth cd H1 locs1 (cells + (c'.2.1 - c.2.1)) (slots + (c'.2.2 - c.2.2)) Q (F0 m pc' lsr1 str1)) : W p l e R s m args below meth cd H locs cells slots Q (F0 m pc lsr str) := by
  obtain ⟨hx, hb, hml, hret, hlk, hown, hnm, hxt, hst0, hF⟩ := id X
  obtain ⟨ws, hP, hD, hS, hw, hl, hst⟩ := rel
  have hd := mv_dec hg
  simp only [mv_step] at hs
  split at hs
  · rename_i j ob r
    obtain ⟨q1, rfl, hst1⟩ := mv_rs_i hst
    obtain ⟨q2, rfl, ho0, ho1, hst2⟩ := mv_rs_r hst1
    split at hs
    · rename_i hc
      cases hs
      obtain ⟨hc1, hc2, hc3⟩ := hc
      obtain ⟨e0, he0, hro⟩ := mv_w_at hw ho0 ho1
      obtain ⟨-, cA, N, x, rfl, hN, hN2, hA1, hA2, hrc⟩ := mv_ro_a hro (by omega)
      obtain ⟨g, rfl, hgf⟩ := mv_rc_i hrc (by omega)
      rw [hN] at hc3
      have hjn : ((j.toNat : Nat) : Int) = j := Int.toNat_of_nonneg hc2
      rw [hc1] at hA1 hA2
      refine va_iald hx hb (mv_K1 hF.2.2.1 hA1 hA2) hP _ 0 he0 rfl (nu_in hc2 hc3 (by omega)) hd ?_
      rw [nu_cl hc2 (by omega), hgf j.toNat (by omega), hjn]
      have := K H locs ι lsr (.int (Int32.ofInt ((h ob).2.2 j)) :: q2) ⟨ws, hP, hD, hS, hw, hl, ⟨rfl, hst2⟩⟩ (fun _ _ _ => rfl)
      simpa only [Nat.sub_self, Nat.add_zero] using this
    · cases hs
  · rename_i j z r
    obtain ⟨q1, rfl, hst1⟩ := mv_rs_i hst
    obtain ⟨q2, rfl, hst2⟩ := mv_rs_s hst1
    split at hs
    · rename_i hc
      cases hs
      obtain ⟨hc2, hc3⟩ := hc
      have hc3 : j < (L : Int) := hc3
      refine va_sld hx hb hF.2.2.2.1.2.2 (Nat.lt_of_lt_of_le hF.2.2.2.1.2.1 hF.2.2.2.1.1) (Nat.not_le.mpr hF.2.2.2.1.2.1 : ¬ mv_A base bs) hS (nu_in hc2 hc3 hLs) hd ?_
      rw [nu_cl hc2 (by omega)]
      have := K H locs ι lsr (.int (xs j.toNat) :: q2) ⟨ws, hP, hD, hS, hw, hl, ⟨(by show Value.int _ = Value.int (Int32.ofInt (xs j.toNat).toInt); rw [Int32.ofInt_toInt]), hst2⟩⟩ (fun _ _ _ => rfl)
      simpa only [Nat.sub_self, Nat.add_zero] using this
    · cases hs
  · cases hs
theorem mv_w_aaload {c c' : mv_C} {h' : mv_H} {pc' : Nat} {ls' st' : List mv_V}  (X : mv_Cx p l m args meth cd y D bs base L xs s) (hg : mv_get (mv_m y).1 pc = some (.aaload, a)) (hs : mv_step ((L : Int), fun j => (xs j.toNat).toInt) pc (.aaload) a ls st c h = some (pc', ls', st', c', h'))
    (rel : mv_Rl D s bs base ι c.1 h H locs (mv_m y).2.2.1 lsr str ls st) (hcs : cells + (c'.2.1 - c.2.1) ≤ R.cells) (hss : slots + (c'.2.2 - c.2.2) ≤ R.slots)
    (K : ∀ (H1 : Heap) (locs1 : List Loc) (ι1 : Int → Nat) (lsr1 : Array Slot) (str1 : List Value), mv_Rl D s bs base ι1 c'.1 h' H1 locs1 (mv_m y).2.2.1 lsr1 str1 ls' st' → (∀ j : Int, 0 ≤ j → j < c.1 → ι1 j = ι j) → W p l e R s m args below meth cd H1 locs1 (cells + (c'.2.1 - c.2.1)) (slots + (c'.2.2 - c.2.2)) Q (F0 m pc' lsr1 str1)) : W p l e R s m args below meth cd H locs cells slots Q (F0 m pc lsr str) := by
  obtain ⟨hx, hb, hml, hret, hlk, hown, hnm, hxt, hst0, hF⟩ := id X
  obtain ⟨ws, hP, hD, hS, hw, hl, hst⟩ := rel
  have hd := mv_dec hg
  simp only [mv_step] at hs
  split at hs
  · rename_i j ob r
    obtain ⟨q1, rfl, hst1⟩ := mv_rs_i hst
    obtain ⟨q2, rfl, ho0, ho1, hst2⟩ := mv_rs_r hst1
    split at hs
    · rename_i hc
      cases hs
      obtain ⟨hc1, hc2, hc3, hc4⟩ := hc
      obtain ⟨e0, he0, hro⟩ := mv_w_at hw ho0 ho1
      obtain ⟨-, cA, N, x, rfl, hN, hN2, hA1, hA2, hrc⟩ := mv_ro_a hro (by omega)
      obtain ⟨g, rfl, hgf⟩ := mv_rc_r hrc (by omega)
      rw [hN] at hc3
      have hjn : ((j.toNat : Nat) : Int) = j := Int.toNat_of_nonneg hc2
      have hgo : W p l e R s m args below meth cd H locs cells slots Q (F0 m (pc + 1) lsr (va_rf (g (Int32.ofInt j).toNatClampNeg) :: q2)) := by
        rw [nu_cl hc2 (by omega)]
        rcases hgf j.toNat (by omega) with ⟨g1, g2, g3⟩ | ⟨g1, -⟩
        · rw [hjn] at g1 g2 g3
          rw [g3]
          have := K H locs ι lsr (va_rf (some (ι ((h ob).2.2 j))) :: q2) ⟨ws, hP, hD, hS, hw, hl, ⟨⟨g1, g2, rfl⟩, hst2⟩⟩ (fun _ _ _ => rfl)
          simpa only [Nat.sub_self, Nat.add_zero] using this
        · rw [hjn] at g1; omega
      rcases hc1 with hc1 | hc1
      · rw [hc1] at hA1 hA2
        exact va_aldq hx hb (mv_K1 hF.2.2.1 hA1 hA2) hP _ 0 he0 rfl (nu_in hc2 hc3 (by omega)) hd hgo
      · rw [hc1] at hA1 hA2
        exact va_aldq hx hb (mv_K1 hF.2.2.1 hA1 hA2) hP _ 0 he0 rfl (nu_in hc2 hc3 (by omega)) hd hgo
    · cases hs
  · cases hs
theorem mv_w_arraylength {c c' : mv_C} {h' : mv_H} {pc' : Nat} {ls' st' : List mv_V}  (X : mv_Cx p l m args meth cd y D bs base L xs s) (hg : mv_get (mv_m y).1 pc = some (.arraylength, a)) (hs : mv_step ((L : Int), fun j => (xs j.toNat).toInt) pc (.arraylength) a ls st c h = some (pc', ls', st', c', h'))
    (rel : mv_Rl D s bs base ι c.1 h H locs (mv_m y).2.2.1 lsr str ls st) (hcs : cells + (c'.2.1 - c.2.1) ≤ R.cells) (hss : slots + (c'.2.2 - c.2.2) ≤ R.slots)
    (K : ∀ (H1 : Heap) (locs1 : List Loc) (ι1 : Int → Nat) (lsr1 : Array Slot) (str1 : List Value), mv_Rl D s bs base ι1 c'.1 h' H1 locs1 (mv_m y).2.2.1 lsr1 str1 ls' st' → (∀ j : Int, 0 ≤ j → j < c.1 → ι1 j = ι j) → W p l e R s m args below meth cd H1 locs1 (cells + (c'.2.1 - c.2.1)) (slots + (c'.2.2 - c.2.2)) Q (F0 m pc' lsr1 str1)) : W p l e R s m args below meth cd H locs cells slots Q (F0 m pc lsr str) := by
  obtain ⟨hx, hb, hml, hret, hlk, hown, hnm, hxt, hst0, hF⟩ := id X
  obtain ⟨ws, hP, hD, hS, hw, hl, hst⟩ := rel
  have hd := mv_dec hg
  simp only [mv_step] at hs
  split at hs
  · rename_i ob r
    obtain ⟨q2, rfl, ho0, ho1, hst2⟩ := mv_rs_r hst
    split at hs
    · rename_i hc
      cases hs
      obtain ⟨e0, he0, hro⟩ := mv_w_at hw ho0 ho1
      obtain ⟨-, cA, N, x, rfl, hN, hN2, hA1, hA2, hrc⟩ := mv_ro_a hro hc
      refine va_alen hx hb (mv_K1 hF.2.2.1 hA1 hA2) hP _ 0 he0 rfl rfl hd ?_
      have := K H locs ι lsr (.int (Int32.ofNat x.1) :: q2) ⟨ws, hP, hD, hS, hw, hl, ⟨(by show Value.int _ = Value.int (Int32.ofInt (h ob).2.1); rw [hrc.1, hN]; rfl), hst2⟩⟩ (fun _ _ _ => rfl)
      simpa only [Nat.sub_self, Nat.add_zero] using this
    · cases hs
  · rename_i z r
    obtain ⟨q2, rfl, hst2⟩ := mv_rs_s hst
    cases hs
    refine va_slen hx hb hF.2.2.2.1.2.2 (Nat.lt_of_lt_of_le hF.2.2.2.1.2.1 hF.2.2.2.1.1) (Nat.not_le.mpr hF.2.2.2.1.2.1 : ¬ mv_A base bs) hS hd ?_
    have := K H locs ι lsr (.int (Int32.ofNat L) :: q2) ⟨ws, hP, hD, hS, hw, hl, ⟨rfl, hst2⟩⟩ (fun _ _ _ => rfl)
    simpa only [Nat.sub_self, Nat.add_zero] using this
  · cases hs
theorem mv_w_iastore {c c' : mv_C} {h' : mv_H} {pc' : Nat} {ls' st' : List mv_V}  (X : mv_Cx p l m args meth cd y D bs base L xs s) (hg : mv_get (mv_m y).1 pc = some (.iastore, a)) (hs : mv_step ((L : Int), fun j => (xs j.toNat).toInt) pc (.iastore) a ls st c h = some (pc', ls', st', c', h'))
    (rel : mv_Rl D s bs base ι c.1 h H locs (mv_m y).2.2.1 lsr str ls st) (hcs : cells + (c'.2.1 - c.2.1) ≤ R.cells) (hss : slots + (c'.2.2 - c.2.2) ≤ R.slots)
    (K : ∀ (H1 : Heap) (locs1 : List Loc) (ι1 : Int → Nat) (lsr1 : Array Slot) (str1 : List Value), mv_Rl D s bs base ι1 c'.1 h' H1 locs1 (mv_m y).2.2.1 lsr1 str1 ls' st' → (∀ j : Int, 0 ≤ j → j < c.1 → ι1 j = ι j) → W p l e R s m args below meth cd H1 locs1 (cells + (c'.2.1 - c.2.1)) (slots + (c'.2.2 - c.2.2)) Q (F0 m pc' lsr1 str1)) : W p l e R s m args below meth cd H locs cells slots Q (F0 m pc lsr str) := by
  obtain ⟨hx, hb, hml, hret, hlk, hown, hnm, hxt, hst0, hF⟩ := id X
  obtain ⟨ws, hP, hD, hS, hw, hl, hst⟩ := rel
  have hd := mv_dec hg
  simp only [mv_step] at hs
  split at hs
  · rename_i z j ob r
    obtain ⟨q0, rfl, hst0'⟩ := mv_rs_i hst
    obtain ⟨q1, rfl, hst1⟩ := mv_rs_i hst0'
    obtain ⟨q2, rfl, ho0, ho1, hst2⟩ := mv_rs_r hst1
    split at hs
    · rename_i hc
      cases hs
      obtain ⟨hc1, hc2, hc3⟩ := hc
      obtain ⟨e0, he0, hro⟩ := mv_w_at hw ho0 ho1
      obtain ⟨h15, cA, N, x, rfl, hN, hN2, hA1, hA2, hrc⟩ := mv_ro_a hro (by omega)
      obtain ⟨g, rfl, hgf⟩ := mv_rc_i hrc (by omega)
      have hjN : j < (N : Int) := by rw [hN] at hc3; exact hc3
      have hw' := mv_w_set (o := ((h ob).1, (h ob).2.1, mv_up (h ob).2.2 j z)) (e := .inl (cA, N, (.inl (upd g j.toNat (Int32.ofInt z))))) hw ho0 ho1 (Or.inr ⟨by show 10 ≤ (h ob).1; omega, h15, cA, N, _, rfl, hN, hN2, hA1, hA2, ⟨rfl, Or.inl ⟨by show (h ob).1 < 13; omega, _, rfl, mv_upd_i hgf hc2 rfl⟩⟩⟩)
      rw [hc1] at hA1 hA2
      refine va_iast hx hb (mv_K1 hF.2.2.1 hA1 hA2) hP hD hS _ 0 he0 rfl (nu_in hc2 hjN (by omega)) hd (fun H1 locs1 hP1 hD1 hS1 => ?_)
      rw [nu_cl hc2 (by omega)] at hP1 hD1
      have := K H1 locs1 ι lsr _ ⟨_, hP1, hD1, hS1, hw', hl, hst2⟩ (fun _ _ _ => rfl)
      simpa only [Nat.sub_self, Nat.add_zero] using this
    · cases hs
  · cases hs
theorem mv_w_castore {c c' : mv_C} {h' : mv_H} {pc' : Nat} {ls' st' : List mv_V}  (X : mv_Cx p l m args meth cd y D bs base L xs s) (hg : mv_get (mv_m y).1 pc = some (.castore, a)) (hs : mv_step ((L : Int), fun j => (xs j.toNat).toInt) pc (.castore) a ls st c h = some (pc', ls', st', c', h'))
    (rel : mv_Rl D s bs base ι c.1 h H locs (mv_m y).2.2.1 lsr str ls st) (hcs : cells + (c'.2.1 - c.2.1) ≤ R.cells) (hss : slots + (c'.2.2 - c.2.2) ≤ R.slots)
    (K : ∀ (H1 : Heap) (locs1 : List Loc) (ι1 : Int → Nat) (lsr1 : Array Slot) (str1 : List Value), mv_Rl D s bs base ι1 c'.1 h' H1 locs1 (mv_m y).2.2.1 lsr1 str1 ls' st' → (∀ j : Int, 0 ≤ j → j < c.1 → ι1 j = ι j) → W p l e R s m args below meth cd H1 locs1 (cells + (c'.2.1 - c.2.1)) (slots + (c'.2.2 - c.2.2)) Q (F0 m pc' lsr1 str1)) : W p l e R s m args below meth cd H locs cells slots Q (F0 m pc lsr str) := by
  obtain ⟨hx, hb, hml, hret, hlk, hown, hnm, hxt, hst0, hF⟩ := id X
  obtain ⟨ws, hP, hD, hS, hw, hl, hst⟩ := rel
  have hd := mv_dec hg
  simp only [mv_step] at hs
  split at hs
  · rename_i z j ob r
    obtain ⟨q0, rfl, hst0'⟩ := mv_rs_i hst
    obtain ⟨q1, rfl, hst1⟩ := mv_rs_i hst0'
    obtain ⟨q2, rfl, ho0, ho1, hst2⟩ := mv_rs_r hst1
    split at hs
    · rename_i hc
      cases hs
      obtain ⟨hc1, hc2, hc3, hc4, hc5⟩ := hc
      obtain ⟨e0, he0, hro⟩ := mv_w_at hw ho0 ho1
      obtain ⟨h15, cA, N, x, rfl, hN, hN2, hA1, hA2, hrc⟩ := mv_ro_a hro (by omega)
      obtain ⟨g, rfl, hgf⟩ := mv_rc_i hrc (by omega)
      have hjN : j < (N : Int) := by rw [hN] at hc3; exact hc3
      have hw' := mv_w_set (o := ((h ob).1, (h ob).2.1, mv_up (h ob).2.2 j z)) (e := .inl (cA, N, (.inl (upd g j.toNat (Int32.ofInt z))))) hw ho0 ho1 (Or.inr ⟨by show 10 ≤ (h ob).1; omega, h15, cA, N, _, rfl, hN, hN2, hA1, hA2, ⟨rfl, Or.inl ⟨by show (h ob).1 < 13; omega, _, rfl, mv_upd_i hgf hc2 rfl⟩⟩⟩)
      rw [hc1] at hA1 hA2
      refine va_cast hx hb (mv_K1 hF.2.2.1 hA1 hA2) hP hD hS _ 0 he0 rfl (nu_in hc2 hjN (by omega)) hd (fun H1 locs1 hP1 hD1 hS1 => ?_)
      rw [nu_cl hc2 (by omega), nu_narc hc4 hc5] at hP1 hD1
      have := K H1 locs1 ι lsr _ ⟨_, hP1, hD1, hS1, hw', hl, hst2⟩ (fun _ _ _ => rfl)
      simpa only [Nat.sub_self, Nat.add_zero] using this
    · cases hs
  · cases hs
theorem mv_w_bastore {c c' : mv_C} {h' : mv_H} {pc' : Nat} {ls' st' : List mv_V}  (X : mv_Cx p l m args meth cd y D bs base L xs s) (hg : mv_get (mv_m y).1 pc = some (.bastore, a)) (hs : mv_step ((L : Int), fun j => (xs j.toNat).toInt) pc (.bastore) a ls st c h = some (pc', ls', st', c', h'))
    (rel : mv_Rl D s bs base ι c.1 h H locs (mv_m y).2.2.1 lsr str ls st) (hcs : cells + (c'.2.1 - c.2.1) ≤ R.cells) (hss : slots + (c'.2.2 - c.2.2) ≤ R.slots)
    (K : ∀ (H1 : Heap) (locs1 : List Loc) (ι1 : Int → Nat) (lsr1 : Array Slot) (str1 : List Value), mv_Rl D s bs base ι1 c'.1 h' H1 locs1 (mv_m y).2.2.1 lsr1 str1 ls' st' → (∀ j : Int, 0 ≤ j → j < c.1 → ι1 j = ι j) → W p l e R s m args below meth cd H1 locs1 (cells + (c'.2.1 - c.2.1)) (slots + (c'.2.2 - c.2.2)) Q (F0 m pc' lsr1 str1)) : W p l e R s m args below meth cd H locs cells slots Q (F0 m pc lsr str) := by
  obtain ⟨hx, hb, hml, hret, hlk, hown, hnm, hxt, hst0, hF⟩ := id X
  obtain ⟨ws, hP, hD, hS, hw, hl, hst⟩ := rel
  have hd := mv_dec hg
  simp only [mv_step] at hs
  split at hs
  · rename_i z j ob r
    obtain ⟨q0, rfl, hst0'⟩ := mv_rs_i hst
    obtain ⟨q1, rfl, hst1⟩ := mv_rs_i hst0'
    obtain ⟨q2, rfl, ho0, ho1, hst2⟩ := mv_rs_r hst1
    split at hs
    · rename_i hc
      cases hs
      obtain ⟨hc1, hc2, hc3, hc4⟩ := hc
      obtain ⟨e0, he0, hro⟩ := mv_w_at hw ho0 ho1
      obtain ⟨h15, cA, N, x, rfl, hN, hN2, hA1, hA2, hrc⟩ := mv_ro_a hro (by omega)
      obtain ⟨g, rfl, hgf⟩ := mv_rc_i hrc (by omega)
      have hjN : j < (N : Int) := by rw [hN] at hc3; exact hc3
      have hw' := mv_w_set (o := ((h ob).1, (h ob).2.1, mv_up (h ob).2.2 j z)) (e := .inl (cA, N, (.inl (upd g j.toNat (Int32.ofInt z))))) hw ho0 ho1 (Or.inr ⟨by show 10 ≤ (h ob).1; omega, h15, cA, N, _, rfl, hN, hN2, hA1, hA2, ⟨rfl, Or.inl ⟨by show (h ob).1 < 13; omega, _, rfl, mv_upd_i hgf hc2 rfl⟩⟩⟩)
      rw [hc1] at hA1 hA2
      refine va_zast hx hb (mv_K1 hF.2.2.1 hA1 hA2) hP hD hS _ 0 he0 rfl (nu_in hc2 hjN (by omega)) hd (fun H1 locs1 hP1 hD1 hS1 => ?_)
      rw [nu_cl hc2 (by omega), nu_narz hc4] at hP1 hD1
      have := K H1 locs1 ι lsr _ ⟨_, hP1, hD1, hS1, hw', hl, hst2⟩ (fun _ _ _ => rfl)
      simpa only [Nat.sub_self, Nat.add_zero] using this
    · cases hs
  · cases hs
theorem mv_w_lastore {c c' : mv_C} {h' : mv_H} {pc' : Nat} {ls' st' : List mv_V}  (X : mv_Cx p l m args meth cd y D bs base L xs s) (hg : mv_get (mv_m y).1 pc = some (.lastore, a)) (hs : mv_step ((L : Int), fun j => (xs j.toNat).toInt) pc (.lastore) a ls st c h = some (pc', ls', st', c', h'))
    (rel : mv_Rl D s bs base ι c.1 h H locs (mv_m y).2.2.1 lsr str ls st) (hcs : cells + (c'.2.1 - c.2.1) ≤ R.cells) (hss : slots + (c'.2.2 - c.2.2) ≤ R.slots)
    (K : ∀ (H1 : Heap) (locs1 : List Loc) (ι1 : Int → Nat) (lsr1 : Array Slot) (str1 : List Value), mv_Rl D s bs base ι1 c'.1 h' H1 locs1 (mv_m y).2.2.1 lsr1 str1 ls' st' → (∀ j : Int, 0 ≤ j → j < c.1 → ι1 j = ι j) → W p l e R s m args below meth cd H1 locs1 (cells + (c'.2.1 - c.2.1)) (slots + (c'.2.2 - c.2.2)) Q (F0 m pc' lsr1 str1)) : W p l e R s m args below meth cd H locs cells slots Q (F0 m pc lsr str) := by
  obtain ⟨hx, hb, hml, hret, hlk, hown, hnm, hxt, hst0, hF⟩ := id X
  obtain ⟨ws, hP, hD, hS, hw, hl, hst⟩ := rel
  have hd := mv_dec hg
  simp only [mv_step] at hs
  split at hs
  · rename_i z j ob r
    obtain ⟨q0, rfl, hst0'⟩ := mv_rs_j hst
    obtain ⟨q1, rfl, hst1⟩ := mv_rs_i hst0'
    obtain ⟨q2, rfl, ho0, ho1, hst2⟩ := mv_rs_r hst1
    split at hs
    · rename_i hc
      cases hs
      obtain ⟨hc1, hc2, hc3⟩ := hc
      obtain ⟨e0, he0, hro⟩ := mv_w_at hw ho0 ho1
      obtain ⟨h15, cA, N, x, rfl, hN, hN2, hA1, hA2, hrc⟩ := mv_ro_a hro (by omega)
      obtain ⟨g, rfl, hgf⟩ := mv_rc_j hrc (by omega)
      have hjN : j < (N : Int) := by rw [hN] at hc3; exact hc3
      have hw' := mv_w_set (o := ((h ob).1, (h ob).2.1, mv_up (h ob).2.2 j z)) (e := .inl (cA, N, (.inr (.inl (vp_updL g j.toNat (Int64.ofInt z)))))) hw ho0 ho1 (Or.inr ⟨by show 10 ≤ (h ob).1; omega, h15, cA, N, _, rfl, hN, hN2, hA1, hA2, ⟨rfl, Or.inr (Or.inl ⟨by show (h ob).1 = 13; omega, _, rfl, mv_upd_j hgf hc2 rfl⟩)⟩⟩)
      rw [hc1] at hA1 hA2
      refine va_last hx hb (mv_K1 hF.2.2.1 hA1 hA2) hP hD hS _ 0 he0 rfl (nu_in hc2 hjN (by omega)) hd (fun H1 locs1 hP1 hD1 hS1 => ?_)
      rw [nu_cl hc2 (by omega)] at hP1 hD1
      have := K H1 locs1 ι lsr _ ⟨_, hP1, hD1, hS1, hw', hl, hst2⟩ (fun _ _ _ => rfl)
      simpa only [Nat.sub_self, Nat.add_zero] using this
    · cases hs
  · cases hs
theorem mv_w_aastore {c c' : mv_C} {h' : mv_H} {pc' : Nat} {ls' st' : List mv_V}  (X : mv_Cx p l m args meth cd y D bs base L xs s) (hg : mv_get (mv_m y).1 pc = some (.aastore, a)) (hs : mv_step ((L : Int), fun j => (xs j.toNat).toInt) pc (.aastore) a ls st c h = some (pc', ls', st', c', h'))
    (rel : mv_Rl D s bs base ι c.1 h H locs (mv_m y).2.2.1 lsr str ls st) (hcs : cells + (c'.2.1 - c.2.1) ≤ R.cells) (hss : slots + (c'.2.2 - c.2.2) ≤ R.slots)
    (K : ∀ (H1 : Heap) (locs1 : List Loc) (ι1 : Int → Nat) (lsr1 : Array Slot) (str1 : List Value), mv_Rl D s bs base ι1 c'.1 h' H1 locs1 (mv_m y).2.2.1 lsr1 str1 ls' st' → (∀ j : Int, 0 ≤ j → j < c.1 → ι1 j = ι j) → W p l e R s m args below meth cd H1 locs1 (cells + (c'.2.1 - c.2.1)) (slots + (c'.2.2 - c.2.2)) Q (F0 m pc' lsr1 str1)) : W p l e R s m args below meth cd H locs cells slots Q (F0 m pc lsr str) := by
  obtain ⟨hx, hb, hml, hret, hlk, hown, hnm, hxt, hst0, hF⟩ := id X
  obtain ⟨ws, hP, hD, hS, hw, hl, hst⟩ := rel
  have hd := mv_dec hg
  simp only [mv_step] at hs
  split at hs
  · rename_i z j ob r
    obtain ⟨q0, rfl, hz0, hz1, hst0'⟩ := mv_rs_r hst
    obtain ⟨q1, rfl, hst1⟩ := mv_rs_i hst0'
    obtain ⟨q2, rfl, ho0, ho1, hst2⟩ := mv_rs_r hst1
    split at hs
    · rename_i hc
      cases hs
      obtain ⟨hc1, hc2, hc3⟩ := hc
      obtain ⟨e0, he0, hro⟩ := mv_w_at hw ho0 ho1
      obtain ⟨e9, he9, hro9⟩ := mv_w_at hw hz0 hz1
      have hfz : 0 < mv_fn (h z).1 := by
        rcases hc1 with ⟨-, h1⟩ | ⟨-, h1⟩ <;> rw [h1] <;> decide
      obtain ⟨-, fs9, rfl, -⟩ := mv_ro_c hro9 hfz
      obtain ⟨h15, cA, N, x, rfl, hN, hN2, hA1, hA2, hrc⟩ := mv_ro_a hro (by omega)
      obtain ⟨g, rfl, hgf⟩ := mv_rc_r hrc (by omega)
      have hjN : j < (N : Int) := by rw [hN] at hc3; exact hc3
      have hw' := mv_w_set (o := ((h ob).1, (h ob).2.1, mv_up (h ob).2.2 j z)) (e := .inl (cA, N, .inr (.inr (.inr (.inr (va_up g j.toNat (some (ι z)))))))) hw ho0 ho1 (Or.inr ⟨by show 10 ≤ (h ob).1; omega, h15, cA, N, _, rfl, hN, hN2, hA1, hA2, ⟨rfl, Or.inr (Or.inr ⟨by show 13 < (h ob).1; omega, _, rfl, mv_upd_r hgf hc2 hz0 hz1⟩)⟩⟩)
      have hgo : ∀ (H1 : Heap) (locs1 : List Loc), va_P D mv_cl (ws.set ob.toNat (ι ob, .inl (cA, N, .inr (.inr (.inr (.inr (va_up g (Int32.ofInt j).toNatClampNeg (some (ι z)))))))))  H1 → va_D (mv_A base) (ws.set ob.toNat (ι ob, .inl (cA, N, .inr (.inr (.inr (.inr (va_up g (Int32.ofInt j).toNatClampNeg (some (ι z))))))))) → va_S (mv_A base) s.heap H1 locs1 → W p l e R s m args below meth cd H1 locs1 cells slots Q (F0 m (pc + 1) lsr q2) := fun H1 locs1 hP1 hD1 hS1 => by
        rw [nu_cl hc2 (by omega)] at hP1 hD1
        have := K H1 locs1 ι lsr _ ⟨_, hP1, hD1, hS1, hw', hl, hst2⟩ (fun _ _ _ => rfl)
        simpa only [Nat.sub_self, Nat.add_zero] using this
      rcases hc1 with ⟨hc1, hc9⟩ | ⟨hc1, hc9⟩
      · rw [hc1] at hA1 hA2
        rw [hc9] at he9
        exact va_astq hx hb (mv_K1 hF.2.2.1 hA1 hA2) hP hD hS _ 0 _ 1 (r := (mv_cn 1, mv_cT 1, mv_fn 1)) he0 rfl he9 rfl (nu_in hc2 hjN (by omega)) hd hgo
      · rw [hc1] at hA1 hA2
        rw [hc9] at he9
        exact va_astq hx hb (mv_K1 hF.2.2.1 hA1 hA2) hP hD hS _ 0 _ 2 (r := (mv_cn 2, mv_cT 2, mv_fn 2)) he0 rfl he9 rfl (nu_in hc2 hjN (by omega)) hd hgo
    · cases hs
  · cases hs
theorem mv_w_new {c c' : mv_C} {h' : mv_H} {pc' : Nat} {ls' st' : List mv_V} {k : Nat} (X : mv_Cx p l m args meth cd y D bs base L xs s) (hg : mv_get (mv_m y).1 pc = some (.new k, a)) (hs : mv_step ((L : Int), fun j => (xs j.toNat).toInt) pc (.new k) a ls st c h = some (pc', ls', st', c', h'))
    (rel : mv_Rl D s bs base ι c.1 h H locs (mv_m y).2.2.1 lsr str ls st) (hcs : cells + (c'.2.1 - c.2.1) ≤ R.cells) (hss : slots + (c'.2.2 - c.2.2) ≤ R.slots)
    (K : ∀ (H1 : Heap) (locs1 : List Loc) (ι1 : Int → Nat) (lsr1 : Array Slot) (str1 : List Value), mv_Rl D s bs base ι1 c'.1 h' H1 locs1 (mv_m y).2.2.1 lsr1 str1 ls' st' → (∀ j : Int, 0 ≤ j → j < c.1 → ι1 j = ι j) → W p l e R s m args below meth cd H1 locs1 (cells + (c'.2.1 - c.2.1)) (slots + (c'.2.2 - c.2.2)) Q (F0 m pc' lsr1 str1)) : W p l e R s m args below meth cd H locs cells slots Q (F0 m pc lsr str) := by
  obtain ⟨hx, hb, hml, hret, hlk, hown, hnm, hxt, hst0, hF⟩ := id X
  obtain ⟨ws, hP, hD, hS, hw, hl, hst⟩ := rel
  have hd := mv_dec hg
  simp only [mv_step] at hs
  split at hs
  · rename_i hc
    cases hs
    have h5 : a.toNat < 5 := by omega
    obtain ⟨pl, hpl⟩ := mv_pool hg
    have hlk2 : (Cond.classLink (mv_ow y) k (mv_cn a.toNat)).before args s = true := by
      match pl, hpl with
      | [q], hpl =>
        have hpl : (if a < 0 then _ else mv_at (.classLink (mv_ow y) k (mv_cn a.toNat)) q) = true := hpl
        rw [if_neg (by omega)] at hpl
        exact hF.1 _ (mv_G_in (mv_at_in hpl) rfl) _
      | [], hpl => cases hpl
      | _ :: _ :: _, hpl => cases hpl
    have hA : ∀ q, s.heap.size ≤ q → mv_A base q := fun q hq => Nat.le_trans hF.2.2.2.1.1 hq
    refine va_new (ci := a.toNat) (C := mv_cn a.toNat) (T := mv_cT a.toNat) (N := mv_fn a.toNat) (fs := (List.range (mv_fn a.toNat)).map (fun j => if mv_ft a.toNat j = 0 then Value.int 0 else .null)) hx hb (fun w hw9 => hF.1 w hw9 args) (mv_uw _ h5) (mv_ty a.toNat) (fun k hk => (mv_tq _ h5 k hk).1) hown hlk2 (hF.1 _ (mv_iq _ h5).1 _) (hF.1 _ (mv_iq _ h5).2 _) hF.2.2.1 hP hD hS hA (mv_cl_at _ h5) (fun j hj => ?_) (by have h9 : cells + (c.2.1 + 1 - c.2.1) ≤ R.cells := hcs; omega) (by have h9 : slots + (c.2.2 + mv_fn a.toNat - c.2.2) ≤ R.slots := hss; omega) hd (fun q H1 hP1 hD1 hS1 => ?_)
    · unfold vp_V
      rw [List.getD_eq_getElem?_getD, List.getElem?_map, List.getElem?_range hj]
      show defaultValue _ = if mv_ft a.toNat j = 0 then Value.int 0 else .null
      rcases (mv_tq _ h5 j hj).2 with ⟨f1, f2⟩ | ⟨f1, f2⟩
      · rw [if_pos f1, f2]; rfl
      · rw [if_neg (by rw [f1]; decide)]; exact (mv_isR_n f2 .null (Or.inr rfl)).2.2
    · have hi : ∀ j : Int, 0 ≤ j → j < c.1 → (fun i : Int => if i = (c.1 : Int) then q else ι i) j = ι j := fun j _ hj => if_neg (by omega)
      have hw' := mv_w_push (q := q) (o := (a.toNat, (mv_fn a.toNat : Int), mv_df a.toNat)) (e := .inr (a.toNat, (List.range (mv_fn a.toNat)).map (fun j => if mv_ft a.toNat j = 0 then Value.int 0 else .null))) hw (Or.inl ⟨h5, _, rfl, by rw [List.length_map, List.length_range], fun j hj => ⟨_, by rw [List.getElem?_map, List.getElem?_range hj]; rfl, by
        show mv_rf _ _ (mv_ft a.toNat j) (if mv_ft a.toNat (j : Int).toNat = 0 then 0 else -1) (if mv_ft a.toNat j = 0 then Value.int 0 else .null)
        rw [show (j : Int).toNat = j from rfl]
        unfold mv_rf
        by_cases hz : mv_ft a.toNat j = 0
        · rw [if_pos hz, if_pos hz, if_pos hz]; rfl
        · rw [if_neg hz, if_neg hz, if_neg hz]; exact Or.inr ⟨by decide, rfl⟩⟩⟩)
      have := K H1 locs _ lsr (.ref q :: str) ⟨_, hP1, hD1, hS1, hw', mv_rl_up hi (by omega) hl, ⟨⟨by omega, by show (c.1 : Int) < ((c.1 + 1 : Nat) : Int); omega, by show Value.ref q = Value.ref (if (c.1 : Int) = (c.1 : Int) then q else ι c.1); rw [if_pos rfl]⟩, mv_rs_up hi (by omega) _ _ hst⟩⟩ hi
      simpa only [Nat.add_sub_cancel_left] using this
  · cases hs
theorem mv_w_newarray {c c' : mv_C} {h' : mv_H} {pc' : Nat} {ls' st' : List mv_V} {k : ArrayType} (X : mv_Cx p l m args meth cd y D bs base L xs s) (hg : mv_get (mv_m y).1 pc = some (.newarray k, a)) (hs : mv_step ((L : Int), fun j => (xs j.toNat).toInt) pc (.newarray k) a ls st c h = some (pc', ls', st', c', h'))
    (rel : mv_Rl D s bs base ι c.1 h H locs (mv_m y).2.2.1 lsr str ls st) (hcs : cells + (c'.2.1 - c.2.1) ≤ R.cells) (hss : slots + (c'.2.2 - c.2.2) ≤ R.slots)
    (K : ∀ (H1 : Heap) (locs1 : List Loc) (ι1 : Int → Nat) (lsr1 : Array Slot) (str1 : List Value), mv_Rl D s bs base ι1 c'.1 h' H1 locs1 (mv_m y).2.2.1 lsr1 str1 ls' st' → (∀ j : Int, 0 ≤ j → j < c.1 → ι1 j = ι j) → W p l e R s m args below meth cd H1 locs1 (cells + (c'.2.1 - c.2.1)) (slots + (c'.2.2 - c.2.2)) Q (F0 m pc' lsr1 str1)) : W p l e R s m args below meth cd H locs cells slots Q (F0 m pc lsr str) := by
  obtain ⟨hx, hb, hml, hret, hlk, hown, hnm, hxt, hst0, hF⟩ := id X
  obtain ⟨ws, hP, hD, hS, hw, hl, hst⟩ := rel
  have hd := mv_dec hg
  simp only [mv_step] at hs
  split at hs
  · rename_i N r
    obtain ⟨q1, rfl, hst1⟩ := mv_rs_i hst
    split at hs
    · rename_i hc
      cases hs
      obtain ⟨hc1, hc2, hc3⟩ := hc
      have hNi : mv_i N := ⟨by omega, by omega⟩
      have hNn : ¬ Int32.ofInt N < 0 := by rw [nu_lt0 hNi]; omega
      have hA : ∀ q, s.heap.size ≤ q → mv_A base q := fun q hq => Nat.le_trans hF.2.2.2.1.1 hq
      have hcl : (Int32.ofInt N).toNatClampNeg = N.toNat := nu_cl hc1 (by omega)
      have hcs1 : cells + 1 ≤ R.cells := by
        have h9 : cells + (c.2.1 + 1 - c.2.1) ≤ R.cells := hcs
        omega
      have hss1 : slots + N.toNat ≤ R.slots := by
        have h9 : slots + (c.2.2 + N.toNat - c.2.2) ≤ R.slots := hss
        omega
      have fin : ∀ (q : Nat) (cA : ClassId) (H1 : Heap) (x : vp_A), ArrOfT s cA (mv_kt (mv_ak k)) → va_RA s cA (mv_kt (mv_ak k)) → mv_rc0 (fun i : Int => if i = (c.1 : Int) then q else ι i) (c.1 + 1) (mv_ak k) N.toNat (fun _ => 0) x → 10 ≤ mv_ak k ∧ mv_ak k ≤ 15 → va_P D mv_cl (ws ++ [(q, .inl (cA, x))]) H1 → va_D (mv_A base) (ws ++ [(q, .inl (cA, x))]) → va_S (mv_A base) s.heap H1 locs → W p l e R s m args below meth cd H1 locs (cells + 1) (slots + N.toNat) Q (F0 m (pc + 2) lsr (.ref q :: q1)) := fun q cA H1 x hA1 hA2 hrc hk9 hP1 hD1 hS1 => by
        have hi : ∀ j : Int, 0 ≤ j → j < c.1 → (fun i : Int => if i = (c.1 : Int) then q else ι i) j = ι j := fun j _ hj => if_neg (by omega)
        have hw' := mv_w_push (q := q) (o := (mv_ak k, N, fun _ => 0)) (e := .inl (cA, x)) hw (Or.inr ⟨hk9.1, hk9.2, cA, N.toNat, x, rfl, (Int.toNat_of_nonneg hc1).symm, by omega, hA1, hA2, hrc⟩)
        have := K H1 locs _ lsr (.ref q :: q1) ⟨_, hP1, hD1, hS1, hw', mv_rl_up hi (by omega) hl, ⟨⟨by omega, by show (c.1 : Int) < ((c.1 + 1 : Nat) : Int); omega, by show Value.ref q = Value.ref (if (c.1 : Int) = (c.1 : Int) then q else ι c.1); rw [if_pos rfl]⟩, mv_rs_up hi (by omega) _ _ hst1⟩⟩ hi
        simpa only [Nat.add_sub_cancel_left] using this
      cases k with
      | int => exact va_newa (atype := .int) (ty := .int) (a0 := (N.toNat, .inl (fun _ => 0))) hx hb (hF.1 _ mv_aw.1 _) rfl hF.2.2.1 hP hD hS hA (fun _ => rfl) hNn hcl (by show N.toNat * 4 ≤ 536870912; omega) hcs1 hss1 hd (fun q cA H1 hK1 hP1 hD1 hS1 => fin q cA H1 _ (mv_K2 hK1).1 (mv_K2 hK1).2 ⟨rfl, Or.inl ⟨by decide, _, rfl, fun _ _ => rfl⟩⟩ (by decide) hP1 hD1 hS1)
      | char => exact va_newa (atype := .char) (ty := .char) (a0 := (N.toNat, .inl (fun _ => 0))) hx hb (hF.1 _ mv_aw.2.1 _) rfl hF.2.2.1 hP hD hS hA (fun _ => rfl) hNn hcl (by show N.toNat * 2 ≤ 536870912; omega) hcs1 hss1 hd (fun q cA H1 hK1 hP1 hD1 hS1 => fin q cA H1 _ (mv_K2 hK1).1 (mv_K2 hK1).2 ⟨rfl, Or.inl ⟨by decide, _, rfl, fun _ _ => rfl⟩⟩ (by decide) hP1 hD1 hS1)
      | boolean => exact va_newa (atype := .boolean) (ty := .boolean) (a0 := (N.toNat, .inl (fun _ => 0))) hx hb (hF.1 _ mv_aw.2.2.1 _) rfl hF.2.2.1 hP hD hS hA (fun _ => rfl) hNn hcl (by show N.toNat * 1 ≤ 536870912; omega) hcs1 hss1 hd (fun q cA H1 hK1 hP1 hD1 hS1 => fin q cA H1 _ (mv_K2 hK1).1 (mv_K2 hK1).2 ⟨rfl, Or.inl ⟨by decide, _, rfl, fun _ _ => rfl⟩⟩ (by decide) hP1 hD1 hS1)
      | long => exact va_newa (atype := .long) (ty := .long) (a0 := (N.toNat, .inr (.inl (fun _ => 0)))) hx hb (hF.1 _ mv_aw.2.2.2 _) rfl hF.2.2.1 hP hD hS hA (fun _ => rfl) hNn hcl (by show N.toNat * 8 ≤ 536870912; omega) hcs1 hss1 hd (fun q cA H1 hK1 hP1 hD1 hS1 => fin q cA H1 _ (mv_K2 hK1).1 (mv_K2 hK1).2 ⟨rfl, Or.inr (Or.inl ⟨rfl, _, rfl, fun _ _ => rfl⟩)⟩ (by decide) hP1 hD1 hS1)
      | _ => exact absurd hc3 (by decide)
    · cases hs
  · cases hs
theorem mv_w_anewarray {c c' : mv_C} {h' : mv_H} {pc' : Nat} {ls' st' : List mv_V} {k : Nat} (X : mv_Cx p l m args meth cd y D bs base L xs s) (hg : mv_get (mv_m y).1 pc = some (.anewarray k, a)) (hs : mv_step ((L : Int), fun j => (xs j.toNat).toInt) pc (.anewarray k) a ls st c h = some (pc', ls', st', c', h'))
    (rel : mv_Rl D s bs base ι c.1 h H locs (mv_m y).2.2.1 lsr str ls st) (hcs : cells + (c'.2.1 - c.2.1) ≤ R.cells) (hss : slots + (c'.2.2 - c.2.2) ≤ R.slots)
    (K : ∀ (H1 : Heap) (locs1 : List Loc) (ι1 : Int → Nat) (lsr1 : Array Slot) (str1 : List Value), mv_Rl D s bs base ι1 c'.1 h' H1 locs1 (mv_m y).2.2.1 lsr1 str1 ls' st' → (∀ j : Int, 0 ≤ j → j < c.1 → ι1 j = ι j) → W p l e R s m args below meth cd H1 locs1 (cells + (c'.2.1 - c.2.1)) (slots + (c'.2.2 - c.2.2)) Q (F0 m pc' lsr1 str1)) : W p l e R s m args below meth cd H locs cells slots Q (F0 m pc lsr str) := by
  obtain ⟨hx, hb, hml, hret, hlk, hown, hnm, hxt, hst0, hF⟩ := id X
  obtain ⟨ws, hP, hD, hS, hw, hl, hst⟩ := rel
  have hd := mv_dec hg
  simp only [mv_step] at hs
  split at hs
  · rename_i N r
    obtain ⟨q1, rfl, hst1⟩ := mv_rs_i hst
    split at hs
    · rename_i hc
      cases hs
      obtain ⟨hc1, hc2, hc3⟩ := hc
      have hNi : mv_i N := ⟨by omega, by omega⟩
      have hNn : ¬ Int32.ofInt N < 0 := by rw [nu_lt0 hNi]; omega
      have hA : ∀ q, s.heap.size ≤ q → mv_A base q := fun q hq => Nat.le_trans hF.2.2.2.1.1 hq
      have hcl : (Int32.ofInt N).toNatClampNeg = N.toNat := nu_cl hc1 (by omega)
      have hcs1 : cells + 1 ≤ R.cells := by
        have h9 : cells + (c.2.1 + 1 - c.2.1) ≤ R.cells := hcs
        omega
      have hss1 : slots + N.toNat ≤ R.slots := by
        have h9 : slots + (c.2.2 + N.toNat - c.2.2) ≤ R.slots := hss
        omega
      have fin : ∀ (q : Nat) (cA : ClassId) (H1 : Heap) (x : vp_A), ArrOfT s cA (mv_kt a.toNat) → va_RA s cA (mv_kt a.toNat) → mv_rc0 (fun i : Int => if i = (c.1 : Int) then q else ι i) (c.1 + 1) a.toNat N.toNat (fun _ => -1) x → va_P D mv_cl (ws ++ [(q, .inl (cA, x))]) H1 → va_D (mv_A base) (ws ++ [(q, .inl (cA, x))]) → va_S (mv_A base) s.heap H1 locs → W p l e R s m args below meth cd H1 locs (cells + 1) (slots + N.toNat) Q (F0 m (pc + 3) lsr (.ref q :: q1)) := fun q cA H1 x hA1 hA2 hrc hP1 hD1 hS1 => by
        have hi : ∀ j : Int, 0 ≤ j → j < c.1 → (fun i : Int => if i = (c.1 : Int) then q else ι i) j = ι j := fun j _ hj => if_neg (by omega)
        have hw' := mv_w_push (q := q) (o := (a.toNat, N, fun _ => -1)) (e := .inl (cA, x)) hw (Or.inr ⟨by show 10 ≤ a.toNat; omega, by show a.toNat ≤ 15; omega, cA, N.toNat, x, rfl, (Int.toNat_of_nonneg hc1).symm, by omega, hA1, hA2, hrc⟩)
        have := K H1 locs _ lsr (.ref q :: q1) ⟨_, hP1, hD1, hS1, hw', mv_rl_up hi (by omega) hl, ⟨⟨by omega, by show (c.1 : Int) < ((c.1 + 1 : Nat) : Int); omega, by show Value.ref q = Value.ref (if (c.1 : Int) = (c.1 : Int) then q else ι c.1); rw [if_pos rfl]⟩, mv_rs_up hi (by omega) _ _ hst1⟩⟩ hi
        simpa only [Nat.add_sub_cancel_left] using this
      obtain ⟨pl, hpl⟩ := mv_pool hg
      have hlk2 : (Cond.classLink (mv_ow y) k (mv_cn (a - 13).toNat)).before args s = true := by
        match pl, hpl with
        | [q], hpl => exact hF.1 _ (mv_G_in (mv_at_in ((Bool.and_eq_true _ _).mp hpl).1) rfl) _
        | [], hpl => cases hpl
        | _ :: _ :: _, hpl => cases hpl
      rcases hc3 with rfl | rfl
      · exact va_newq hx hb hown hlk2 hF.2.2.2.2.2.2.2.1 hF.2.2.1 hP hD hS hA hNn hcl (by omega) hcs1 hss1 hd (fun q cA H1 hK1 hP1 hD1 hS1 => fin q cA H1 _ (mv_K2 hK1).1 (mv_K2 hK1).2 ⟨rfl, Or.inr (Or.inr ⟨by decide, _, rfl, fun _ _ => Or.inr ⟨(by decide : (-1 : Int) < 0), rfl⟩⟩)⟩ hP1 hD1 hS1)
      · exact va_newq hx hb hown hlk2 hF.2.2.2.2.2.2.2.2 hF.2.2.1 hP hD hS hA hNn hcl (by omega) hcs1 hss1 hd (fun q cA H1 hK1 hP1 hD1 hS1 => fin q cA H1 _ (mv_K2 hK1).1 (mv_K2 hK1).2 ⟨rfl, Or.inr (Or.inr ⟨by decide, _, rfl, fun _ _ => Or.inr ⟨(by decide : (-1 : Int) < 0), rfl⟩⟩)⟩ hP1 hD1 hS1)
    · cases hs
  · cases hs
end HPS
end
section
/-! any one instruction; what the counters do; the throws -/
section DSP
variable {p : Program} {l : Launch} {e : Env} {R : Room} {s : State} {m : MethodId} {args : Array Value} {below : List Frame} {meth : Method} {cd : Code} {H : Heap} {locs : List Loc} {cells slots : Nat} {Q : State → Prop}
variable {y pc : Nat} {D : va_G} {bs base L : Nat} {xs : Nat → Int32} {ι : Int → Nat} {n : Nat} {h : mv_H} {lsr : Array Slot} {str : List Value} {ls st : List mv_V} {i : Instr} {a : Int}
theorem mv_stepW {c c' : mv_C} {h' : mv_H} {pc' : Nat} {ls' st' : List mv_V} (hLs : L < 2147483648) (X : mv_Cx p l m args meth cd y D bs base L xs s) (hg : mv_get (mv_m y).1 pc = some (i, a)) (hs : mv_step ((L : Int), fun j => (xs j.toNat).toInt) pc i a ls st c h = some (pc', ls', st', c', h'))
    (rel : mv_Rl D s bs base ι c.1 h H locs (mv_m y).2.2.1 lsr str ls st) (hcs : cells + (c'.2.1 - c.2.1) ≤ R.cells) (hss : slots + (c'.2.2 - c.2.2) ≤ R.slots)
    (K : ∀ (H1 : Heap) (locs1 : List Loc) (ι1 : Int → Nat) (lsr1 : Array Slot) (str1 : List Value), mv_Rl D s bs base ι1 c'.1 h' H1 locs1 (mv_m y).2.2.1 lsr1 str1 ls' st' → (∀ j : Int, 0 ≤ j → j < c.1 → ι1 j = ι j) → W p l e R s m args below meth cd H1 locs1 (cells + (c'.2.1 - c.2.1)) (slots + (c'.2.2 - c.2.2)) Q (F0 m pc' lsr1 str1)) : W p l e R s m args below meth cd H locs cells slots Q (F0 m pc lsr str) := by
  cases i with
  | iconst _ => exact mv_w_iconst X hg hs rel hcs hss K
  | bipush _ => exact mv_w_bipush X hg hs rel hcs hss K
  | sipush _ => exact mv_w_sipush X hg hs rel hcs hss K
  | lconst _ => exact mv_w_lconst X hg hs rel hcs hss K
  | ldc _ => exact mv_w_ldc X hg hs rel hcs hss K
  | ldc_w _ => exact mv_w_ldc_w X hg hs rel hcs hss K
  | ldc2_w _ => exact mv_w_ldc2_w X hg hs rel hcs hss K
  | iload _ => exact mv_w_iload X hg hs rel hcs hss K
  | iload_n _ => exact mv_w_iload_n X hg hs rel hcs hss K
  | lload _ => exact mv_w_lload X hg hs rel hcs hss K
  | lload_n _ => exact mv_w_lload_n X hg hs rel hcs hss K
  | aload _ => exact mv_w_aload X hg hs rel hcs hss K
  | aload_n _ => exact mv_w_aload_n X hg hs rel hcs hss K
  | istore _ => exact mv_w_istore X hg hs rel hcs hss K
  | istore_n _ => exact mv_w_istore_n X hg hs rel hcs hss K
  | lstore _ => exact mv_w_lstore X hg hs rel hcs hss K
  | lstore_n _ => exact mv_w_lstore_n X hg hs rel hcs hss K
  | astore _ => exact mv_w_astore X hg hs rel hcs hss K
  | astore_n _ => exact mv_w_astore_n X hg hs rel hcs hss K
  | iinc _ _ => exact mv_w_iinc X hg hs rel hcs hss K
  | iadd  => exact mv_w_iadd X hg hs rel hcs hss K
  | isub  => exact mv_w_isub X hg hs rel hcs hss K
  | imul  => exact mv_w_imul X hg hs rel hcs hss K
  | ladd  => exact mv_w_ladd X hg hs rel hcs hss K
  | lsub  => exact mv_w_lsub X hg hs rel hcs hss K
  | lmul  => exact mv_w_lmul X hg hs rel hcs hss K
  | idiv  => exact mv_w_idiv X hg hs rel hcs hss K
  | irem  => exact mv_w_irem X hg hs rel hcs hss K
  | ldiv  => exact mv_w_ldiv X hg hs rel hcs hss K
  | lrem  => exact mv_w_lrem X hg hs rel hcs hss K
  | ishl  => exact mv_w_ishl X hg hs rel hcs hss K
  | ishr  => exact mv_w_ishr X hg hs rel hcs hss K
  | ior  => exact mv_w_ior X hg hs rel hcs hss K
  | ixor  => exact mv_w_ixor X hg hs rel hcs hss K
  | iand  => exact mv_w_iand X hg hs rel hcs hss K
  | land  => exact mv_w_land X hg hs rel hcs hss K
  | lor  => exact mv_w_lor X hg hs rel hcs hss K
  | lcmp  => exact mv_w_lcmp X hg hs rel hcs hss K
  | lshl  => exact mv_w_lshl X hg hs rel hcs hss K
  | lushr  => exact mv_w_lushr X hg hs rel hcs hss K
  | i2l  => exact mv_w_i2l X hg hs rel hcs hss K
  | l2i  => exact mv_w_l2i X hg hs rel hcs hss K
  | i2c  => exact mv_w_i2c X hg hs rel hcs hss K
  | pop  => exact mv_w_pop X hg hs rel hcs hss K
  | dup  => exact mv_w_dup X hg hs rel hcs hss K
  | dup2  => exact mv_w_dup2 X hg hs rel hcs hss K
  | goto _ => exact mv_w_goto X hg hs rel hcs hss K
  | ifCond _ _ => exact mv_w_ifCond X hg hs rel hcs hss K
  | if_icmp _ _ => exact mv_w_if_icmp X hg hs rel hcs hss K
  | tableswitch _ _ _ _ => exact mv_w_tableswitch X hg hs rel hcs hss K
  | getfield _ => exact mv_w_getfield X hg hs rel hcs hss K
  | putfield _ => exact mv_w_putfield X hg hs rel hcs hss K
  | caload  => exact mv_w_caload X hg hs rel hcs hss K
  | baload  => exact mv_w_baload X hg hs rel hcs hss K
  | laload  => exact mv_w_laload X hg hs rel hcs hss K
  | iaload  => exact mv_w_iaload hLs X hg hs rel hcs hss K
  | aaload  => exact mv_w_aaload X hg hs rel hcs hss K
  | arraylength  => exact mv_w_arraylength X hg hs rel hcs hss K
  | iastore  => exact mv_w_iastore X hg hs rel hcs hss K
  | castore  => exact mv_w_castore X hg hs rel hcs hss K
  | bastore  => exact mv_w_bastore X hg hs rel hcs hss K
  | lastore  => exact mv_w_lastore X hg hs rel hcs hss K
  | aastore  => exact mv_w_aastore X hg hs rel hcs hss K
  | new _ => exact mv_w_new X hg hs rel hcs hss K
  | newarray _ => exact mv_w_newarray X hg hs rel hcs hss K
  | anewarray _ => exact mv_w_anewarray X hg hs rel hcs hss K
  | _ => simp [mv_step] at hs
theorem mv_step_mono {sc : Int × (Int → Int)} {c c' : mv_C} {h' : mv_H} {pc' : Nat} {ls' st' : List mv_V} (hs : mv_step sc pc i a ls st c h = some (pc', ls', st', c', h')) : c.1 ≤ c'.1 ∧ c.2.1 ≤ c'.2.1 ∧ c.2.2 ≤ c'.2.2 := by
  have key : c' = c ∨ ∃ k, c' = (c.1 + 1, c.2.1 + 1, c.2.2 + k) := by
    cases i <;> simp only [mv_step, mv_b2, mv_j2, mv_ld, mv_jmp] at hs <;> (repeat' split at hs) <;>
      first
      | (cases hs; done)
      | (cases hs; exact Or.inl rfl)
      | (cases hs; exact Or.inr ⟨_, rfl⟩)
      | (obtain ⟨l1, h1, h2⟩ := Option.map_eq_some_iff.mp hs; cases h2; exact Or.inl rfl)
  rcases key with rfl | ⟨k, rfl⟩
  · exact ⟨Nat.le_refl _, Nat.le_refl _, Nat.le_refl _⟩
  · exact ⟨Nat.le_add_right _ _, Nat.le_add_right _ _, Nat.le_add_right _ _⟩
end DSP
theorem mv_run_mono {sc : Int × (Int → Int)} : ∀ (N y pc : Nat) (ls st : List mv_V) (c : mv_C) (h : mv_H) (r : mv_R) (c' : mv_C) (h' : mv_H), mv_run sc N y pc ls st c h = some (r, c', h') → c.1 ≤ c'.1 ∧ c.2.1 ≤ c'.2.1 ∧ c.2.2 ≤ c'.2.2 := by
  intro N
  induction N with
  | zero => intro y pc ls st c h r c' h' hr; cases hr
  | succ N ih =>
    intro y pc ls st c h r c' h' hr
    rw [mv_run] at hr
    split at hr
    · cases hr
    · split at hr
      · split at hr
        · rename_i hs9
          have h1 := mv_step_mono hs9
          have h2 := ih _ _ _ _ _ _ _ _ _ hr
          omega
        · cases hr
      · split at hr
        · split at hr
          · rename_i hs9
            have h1 := ih _ _ _ _ _ _ _ _ _ hs9
            split at hr
            · split at hr
              · split at hr
                · have h2 := ih _ _ _ _ _ _ _ _ _ hr
                  omega
                · split at hr
                  · cases hr; exact h1
                  · cases hr
              · cases hr
            · split at hr
              · have h2 := ih _ _ _ _ _ _ _ _ _ hr
                omega
              · have h2 := ih _ _ _ _ _ _ _ _ _ hr
                omega
          · cases hr
        · cases hr
      · obtain ⟨l1, h1, h2⟩ := Option.map_eq_some_iff.mp hr
        cases h2
        exact ⟨Nat.le_refl _, Nat.le_refl _, Nat.le_refl _⟩
      · split at hr
        · cases hr
          exact ⟨Nat.le_refl _, Nat.le_add_right _ _, Nat.le_add_right _ _⟩
        · cases hr
/-- the throws: method, pc, whether the text's index is wide, the index, the text, the class of the exception -/
def mv_thr : List (Nat × Nat × Bool × Nat × String × Nat) := [(50, 11, false, 60, "no character code", 0),
  (50, 33, false, 67, "the text is full", 1),
  (51, 114, false, 101, "no such number of the log", 0),
  (52, 99, false, 126, "no such number of a line", 0),
  (53, 15, true, 280, "no such line", 2),
  (54, 9, false, 128, "the index is negative", 0),
  (56, 12, true, 285, "no such piece", 2),
  (57, 110, false, 158, "no such number of a template", 0),
  (58, 15, true, 283, "no such template", 2),
  (59, 94, false, 174, "no such number of a piece", 0),
  (61, 14, false, 179, "the text is not a line", 1),
  (61, 43, false, 184, "there is no room for the line", 1),
  (62, 30, false, 184, "there is no room for the line", 1),
  (64, 29, false, 204, "the piece is no fixed word", 1),
  (65, 14, false, 214, "the lines need too many templates", 1),
  (66, 10, false, 222, "no state is remembered", 1),
  (67, 9, false, 128, "the index is negative", 0),
  (70, 10, false, 238, "no value of a number", 0),
  (71, 10, false, 243, "no such number of commands", 0),
  (71, 36, false, 251, "the script has not the digits of its commands", 0),
  (72, 11, true, 259, "no such number of lines", 0),
  (76, 9, true, 287, "no such save slot", 2),
  (77, 13, true, 273, "nothing has been saved in the slot", 1)]
def mv_tk (y pc : Nat) (a : Int) : Bool := mv_thr.any fun q => Nat.beq q.1 y && Nat.beq q.2.1 pc && decide ((q.2.2.2.2.2 : Int) = -1 - a)
set_option maxRecDepth 100000 in
theorem mv_tk0 : (List.range 206).all (fun y => (mv_m y).1.all fun q => match q.2.1 with
  | .new _ => decide (0 ≤ q.2.2) || mv_tk y q.1 q.2.2
  | _ => true) = true := by decide +kernel
def mv_tdk (q : Nat × Nat × Bool × Nat × String × Nat) : Bool := decide (decode (mv_by q.1) (q.2.1 + 3) = .ok (.dup, 1)) && decide (q.2.2.2.2.2 < 3) && decide (mv_ow q.1 = "LineTemplates") && decide ((q.2.2.2.1, q.2.2.2.2.1) ∈ mv_str) && decide (6 ≤ mv_fr q.1) && decide (90 ≤ mv_lo q.1) &&
  (if q.2.2.1 then decide (decode (mv_by q.1) (q.2.1 + 4) = .ok (.ldc_w q.2.2.2.1, 3)) && decide (decode (mv_by q.1) (q.2.1 + 7) = .ok (.invokespecial (mv_xi q.2.2.2.2.2), 3)) && decide (decode (mv_by q.1) (q.2.1 + 10) = .ok (.athrow, 1))
   else decide (decode (mv_by q.1) (q.2.1 + 4) = .ok (.ldc q.2.2.2.1, 2)) && decide (decode (mv_by q.1) (q.2.1 + 6) = .ok (.invokespecial (mv_xi q.2.2.2.2.2), 3)) && decide (decode (mv_by q.1) (q.2.1 + 9) = .ok (.athrow, 1)))
set_option maxRecDepth 100000 in
theorem mv_td0 : mv_thr.all mv_tdk = true := by decide +kernel
def mv_xw (E : Nat) : Bool := (vx_atS "LineTemplates" (mv_xi E) (mv_xn E) mv_xns).all (fun w => decide (w ∈ lw_tbl) && (goodWord w || mv_nw w) && vx_ot w) && Bundle.fit (mv_xn E) && mv_xns.all Bundle.fit && decide (Cond.initialized (mv_xn E) ∈ mv_G)
set_option maxRecDepth 100000 in
theorem mv_xw0 : mv_xw 0 = true ∧ mv_xw 1 = true ∧ mv_xw 2 = true := by decide +kernel
theorem mv_rk0 : (List.range 206).all (fun y => mv_rkt (mv_m y).2.2.2.1 (mv_rt y)) = true := by decide +kernel
theorem mv_pf0 : (List.range 206).all (fun y => y == 3 || plainFor (mv_y y)) = true := by decide +kernel
theorem mv_hd0 : (List.range 206).all (fun y => decide ((mv_m y).2.2.2.2.2 = (mv_hh y).map fun q => (q.1, q.2.1, q.2.2.1, mv_ce q.2.2.2)) && (mv_hh y).all (fun q => decide (q.2.2.2 = 13) || decide (q.2.2.2 = 15) || decide (q.2.2.2 = 24)) && (decide (mv_ow y = "LineTemplatesLaw") || (mv_hh y).isEmpty)) = true := by decide +kernel
theorem mv_cw0 : Cond.classLink "LineTemplatesLaw" 13 (mv_xn 0) ∈ mv_G ∧ Cond.classLink "LineTemplatesLaw" 15 (mv_xn 1) ∈ mv_G ∧ Cond.classLink "LineTemplatesLaw" 24 (mv_xn 2) ∈ mv_G ∧ Cond.castable (mv_xn 0) (mv_xn 0) ∈ lw_tbl ∧ Cond.castable (mv_xn 1) (mv_xn 1) ∈ lw_tbl ∧ Cond.castable (mv_xn 2) (mv_xn 2) ∈ lw_tbl := by decide +kernel
theorem mv_ob0 : mv_y 3 = Lib.objectInit ∧ Cond.instanceMethod Lib.objectInit ∈ mv_G ∧ Cond.code Lib.objectInit ⟨#[0xb1]⟩ 1 none ∈ mv_G ∧ mv_fr 3 = 0 := by decide +kernel
end
section
/-! the whole run of a method: by induction on the small machine's steps, calls among them -/
def mv_QC (D : va_G) (bs base : Nat) (ι0 : Int → Nat) (n0 : Nat) (r : mv_R) (c' : mv_C) (h' : mv_H) : Array Value → State → Outcome → State → Prop := fun _ st o t =>
  ∃ (ι' : Int → Nat) (ws' : va_W), (∀ j : Int, 0 ≤ j → j < n0 → ι' j = ι0 j) ∧ n0 ≤ c'.1 ∧ va_P D mv_cl ws' t.heap ∧ va_D (mv_A base) ws' ∧ mv_w t ι' c'.1 h' ws' ∧ va_F (mv_A base) st t ∧
    ((r.1 = 3 ∧ o = .returned none) ∨ (r.1 < 3 ∧ ∃ x, o = .returned (some x) ∧ mv_rv ι' c'.1 bs r x))
def mv_XC (D : va_G) (base : Nat) (ι0 : Int → Nat) (n0 : Nat) (r : mv_R) (c' : mv_C) (h' : mv_H) : String → State → State → Prop := fun E st t =>
  r.1 = 4 ∧ E = mv_xn r.2.toNat ∧ ∃ (ι' : Int → Nat) (ws' : va_W), (∀ j : Int, 0 ≤ j → j < n0 → ι' j = ι0 j) ∧ n0 ≤ c'.1 ∧ va_P D mv_cl ws' t.heap ∧ va_D (mv_A base) ws' ∧ mv_w t ι' c'.1 h' ws' ∧ va_F (mv_A base) st t
def mv_Sim (l : Launch) (D : va_G) (bs base L : Nat) (xs : Nat → Int32) (N : Nat) : Prop :=
  ∀ (y pc : Nat) (ls st : List mv_V) (c : mv_C) (h : mv_H) (r : mv_R) (c' : mv_C) (h' : mv_H), mv_run ((L : Int), fun j => (xs j.toNat).toInt) N y pc ls st c h = some (r, c', h') →
  ∀ (p : Program) (e : Env) (R : Room) (s : State) (m : MethodId) (args : Array Value) (below : List Frame) (meth : Method) (cd : Code) (H : Heap) (locs : List Loc) (cells slots mc ms : Nat) (ι : Int → Nat) (lsr : Array Slot) (str : List Value) (ι0 : Int → Nat) (n0 : Nat),
    mv_Cx p l m args meth cd y D bs base L xs s → mv_fr y ≤ R.frames → mv_lo y ≤ R.locals → mv_Rl D s bs base ι c.1 h H locs (mv_m y).2.2.1 lsr str ls st → (∀ j : Int, 0 ≤ j → j < n0 → ι j = ι0 j) → n0 ≤ c.1 →
    cells + (c'.2.1 - c.2.1) ≤ mc → slots + (c'.2.2 - c.2.2) ≤ ms → mc ≤ R.cells → ms ≤ R.slots →
    W p l e R s m args below meth cd H locs cells slots (vx_MQ below (mv_QC D bs base ι0 n0 r c' h') (mv_XC D base ι0 n0 r c' h') args s mc ms (mv_A base)) (F0 m pc lsr str)
theorem mv_y206 {y pc : Nat} {q : Instr × Int} (hg : mv_get (mv_m y).1 pc = some q) : y < 206 := by
  by_cases hy : y < 206
  · exact hy
  · have : (mv_m y).1 = [] := by
      unfold mv_m
      rw [List.getD_eq_getElem?_getD, List.getElem?_eq_none (Nat.not_lt.mp hy)]; rfl
    rw [this] at hg
    cases hg
theorem mv_all {P : Nat → Bool} (h : (List.range 206).all P = true) {y : Nat} (hy : y < 206) : P y = true := List.all_eq_true.mp h y (List.mem_range.mpr hy)
/-- a contract out of a walk, whatever the class -/
theorem mv_ofW {l : Launch} {y : MethodName} {w0 : Cond} {rm : Room} {Pc : Array Value → State → Prop} {Qc : Array Value → State → Outcome → State → Prop} {XC : String → State → State → Prop} {mc ms : Nat} {free : Addr → Prop} {cc : ByteArray} {maxL : Nat} {ret : Option FieldType} {hh : List (Nat × Nat × Nat × Nat)}
    (hy : plainFor y = true) (hw : (w0 = Cond.code y cc maxL ret ∧ hh = []) ∨ w0 = Cond.codeWith y cc maxL ret hh)
    (body : ∀ p e s m args below meth c s₁, BodyLoose p l y (headSpec [w0] rm) cc maxL ret e s m args below meth c s₁ → c.maxLocals = maxL → c.exceptionTable.toList = tableOf hh → Pc args s →
      W p l e (headSpec [w0] rm).room s m args below meth c s.heap [] 0 0 (vx_MQ below Qc XC args s mc ms free) (entryFrame m args maxL)) : vx_Met l y [w0] rm Pc Qc XC mc ms free := by
  rcases hw with ⟨rfl, rfl⟩ | rfl
  · refine MetFree.of_bodySF (code := cc) (maxLocals := maxL) (ret := ret) hy ?_ ?_
    · intro args s m h hn
      obtain ⟨meth, c, h1, h2, h3, h4, h5, h6, -, -⟩ := Cond.code_spec hn (atoms_spec (ws := [Cond.code y cc maxL ret]) h _ List.mem_cons_self)
      exact ⟨meth, c, h1, h2, h3, h4, h5, h6⟩
    · intro p e s m args below meth c s₁ B hml hP _
      have hh0 : s₁.heap = s.heap := by rw [B.state]; rfl
      have ht : c.exceptionTable.toList = tableOf [] := by
        obtain ⟨meth9, c9, h1, h2, -, -, -, -, h7, -⟩ := Cond.code_spec B.named (atoms_spec (ws := [Cond.code y cc maxL ret]) B.pre _ List.mem_cons_self)
        cases Option.some.inj (h1.symm.trans B.method)
        cases Option.some.inj (h2.symm.trans (Stand.of_body B).code)
        rw [Array.isEmpty_iff.mp h7]; rfl
      obtain ⟨t, a1, o, b1, b2, b3⟩ := body p e s m args below meth c s₁ B hml ht hP s₁ hh0 (Stand.of_body B)
      exact ⟨t, o, a1, b1, b2, b3⟩
  · refine MetFree.of_bodySF (code := cc) (maxLocals := maxL) (ret := ret) hy ?_ ?_
    · intro args s m h hn
      obtain ⟨m9, meth, c, hn9, h1, h2, h3, h4, -, h5, h6, -⟩ := Cond.codeWith_spec (atoms_spec (ws := [Cond.codeWith y cc maxL ret hh]) h _ List.mem_cons_self)
      cases hn.symm.trans hn9
      exact ⟨meth, c, h1, h2, h3, h4, h5, h6⟩
    · intro p e s m args below meth c s₁ B hml hP _
      have hh0 : s₁.heap = s.heap := by rw [B.state]; rfl
      have ht : c.exceptionTable.toList = tableOf hh := vx_table (x := y) B (atoms_spec (ws := [Cond.codeWith y cc maxL ret hh]) B.pre _ List.mem_cons_self)
      obtain ⟨t, a1, o, b1, b2, b3⟩ := body p e s m args below meth c s₁ B hml ht hP s₁ hh0 (Stand.of_body B)
      exact ⟨t, o, a1, b1, b2, b3⟩
theorem mv_rs_app {ι : Int → Nat} {n bs : Nat} : ∀ (k : Nat) (st : List mv_V) (str : List Value), k ≤ st.length → mv_rs ι n bs st str → ∃ vs q, str = vs ++ q ∧ vs.length = k ∧ mv_rs ι n bs (st.take k) vs ∧ mv_rs ι n bs (st.drop k) q
  | 0, st, str, _, h => ⟨[], str, rfl, rfl, trivial, h⟩
  | k + 1, v :: r, x :: q, hk, h => by
    obtain ⟨vs, q2, h1, h2, h3, h4⟩ := mv_rs_app k r q (by simpa using hk) h.2
    exact ⟨x :: vs, q2, by rw [h1]; rfl, by rw [List.length_cons, h2], ⟨h.1, h3⟩, h4⟩
  | k + 1, [], _, hk, _ => by simp at hk
  | k + 1, _ :: _, [], _, h => h.elim
theorem mv_rs_cat {ι : Int → Nat} {n bs : Nat} : ∀ (a b : List mv_V) (x y : List Value), mv_rs ι n bs a x → mv_rs ι n bs b y → mv_rs ι n bs (a ++ b) (x ++ y)
  | [], b, [], y, _, h => h
  | v :: r, b, x :: q, y, h, h2 => ⟨h.1, mv_rs_cat r b q y h.2 h2⟩
  | [], _, _ :: _, _, h, _ => h.elim
  | _ :: _, _, [], _, h, _ => h.elim
theorem mv_rs_rev {ι : Int → Nat} {n bs : Nat} : ∀ (a : List mv_V) (x : List Value), mv_rs ι n bs a x → mv_rs ι n bs a.reverse x.reverse
  | [], [], _ => trivial
  | v :: r, x :: q, h => by
    rw [List.reverse_cons, List.reverse_cons]
    exact mv_rs_cat _ _ _ _ (mv_rs_rev r q h.2) ⟨h.1, trivial⟩
  | [], _ :: _, h => h.elim
  | _ :: _, [], h => h.elim
theorem mv_rs_len {ι : Int → Nat} {n bs : Nat} : ∀ (a : List mv_V) (x : List Value), mv_rs ι n bs a x → x.length = a.length
  | [], [], _ => rfl
  | v :: r, x :: q, h => by rw [List.length_cons, List.length_cons, mv_rs_len r q h.2]
  | [], _ :: _, h => h.elim
  | _ :: _, [], h => h.elim
theorem mv_rs_sum : ∀ (x : List Value), (x.map fun v => v.category).sum ≤ 2 * x.length
  | [] => Nat.le_refl _
  | v :: q => by
    rw [List.map_cons, List.sum_cons, List.length_cons]
    have := mv_rs_sum q
    rcases lv_cat v with h | h <;> omega
theorem mv_rv_cat2 {ι : Int → Nat} {n bs : Nat} {v : mv_V} {x : Value} (h : mv_rv ι n bs v x) : (x.category = 2 ↔ v.1 = 1) := by
  constructor
  · intro h2
    by_cases h1 : v.1 = 1
    · exact h1
    · rw [mv_rv_cat h h1] at h2; omega
  · intro h1
    rw [mv_v1 h1] at h
    cases h; rfl
theorem mv_ents_sl {ι : Int → Nat} {n bs : Nat} : ∀ (a : List mv_V) (x : List Value), mv_rs ι n bs a x → (lg_sl x).length = (mv_ents a).length
  | [], [], _ => rfl
  | v :: r, x :: q, h => by
    have ih := mv_ents_sl r q h.2
    have hc := mv_rv_cat2 h.1
    have e1 : lg_sl (x :: q) = (if x.category = 2 then [.val x, .second] else [.val x]) ++ lg_sl q := rfl
    rw [e1]
    unfold mv_ents
    by_cases h1 : v.1 = 1
    · rw [if_pos (hc.mpr h1), if_pos h1, List.length_append, ih]
      simp only [List.length_cons, List.length_nil]; omega
    · rw [if_neg (fun z => h1 (hc.mp z)), if_neg h1, List.length_append, ih]
      simp only [List.length_cons, List.length_nil]; omega
  | [], _ :: _, h => h.elim
  | _ :: _, [], h => h.elim
theorem mv_ents_at {ι : Int → Nat} {n bs : Nat} : ∀ (a : List mv_V) (x : List Value) (k : Nat), mv_rs ι n bs a x → ∀ (i : Nat) (v : mv_V), (mv_ents a)[i]? = some v → v.1 ≠ 5 → ∃ z, (k + i, z) ∈ lv_args k x ∧ mv_rv ι n bs v z
  | [], [], _, _, i, v, hv, _ => by simp [mv_ents] at hv
  | w :: r, x :: q, k, h, i, v, hv, h5 => by
    have hc := mv_rv_cat2 h.1
    unfold mv_ents at hv
    unfold lv_args
    by_cases h1 : w.1 = 1
    · rw [if_pos h1] at hv
      rw [if_pos (hc.mpr h1)]
      match i, hv with
      | 0, hv => cases hv; exact ⟨x, List.mem_cons_self, h.1⟩
      | 1, hv => cases hv; exact absurd rfl h5
      | i + 2, hv =>
        obtain ⟨z, h2, h3⟩ := mv_ents_at r q (k + 2) h.2 i v hv h5
        exact ⟨z, List.mem_cons_of_mem _ (by rw [show k + (i + 2) = k + 2 + i by omega]; exact h2), h3⟩
    · rw [if_neg h1] at hv
      rw [if_neg (fun z => h1 (hc.mp z))]
      match i, hv with
      | 0, hv => cases hv; exact ⟨x, List.mem_cons_self, h.1⟩
      | i + 1, hv =>
        obtain ⟨z, h2, h3⟩ := mv_ents_at r q (k + 1) h.2 i v hv h5
        exact ⟨z, List.mem_cons_of_mem _ (by rw [show k + (i + 1) = k + 1 + i by omega]; exact h2), h3⟩
  | [], _ :: _, _, h, _, _, _, _ => h.elim
  | _ :: _, [], _, h, _, _, _, _ => h.elim
/-- the locals at a method's entry -/
theorem mv_rl_ent {ι : Int → Nat} {n bs : Nat} {a : List mv_V} {x : List Value} {nL : Nat} (h : mv_rs ι n bs a x) (hn : (mv_ents a).length ≤ nL) : mv_rl ι n bs (mv_ent a nL) nL ((lg_sl x ++ List.replicate (nL - (lg_sl x).length) Slot.unset).toArray) := by
  refine ⟨?_, lv_args 0 x, lv_entry x (by rw [mv_ents_sl a x h]; exact hn), fun i v hv h5 => ?_⟩
  · unfold mv_ent
    rw [List.length_append, List.length_replicate]; omega
  · unfold mv_ent at hv
    by_cases hi : i < (mv_ents a).length
    · rw [List.getElem?_append_left hi] at hv
      obtain ⟨z, h1, h2⟩ := mv_ents_at a x 0 h i v hv h5
      rw [Nat.zero_add] at h1
      exact ⟨z, h1, h2⟩
    · rw [List.getElem?_append_right (Nat.not_lt.mp hi)] at hv
      have := List.mem_of_getElem? hv
      rw [List.mem_replicate] at this
      rw [this.2] at h5
      exact absurd rfl h5
end
section
/-! calls, ends, throws; the main row mv_sim -/
theorem mv_mk_ok {z : Nat} (hz : z < 206) (h3 : z ≠ 3) (h5 : z ≠ 205) : Cond.initialized (mv_ow z) ∈ mv_G ∧ (mv_ow z ≠ "java/lang/invoke/MethodHandle" ∧ mv_ow z ≠ "java/lang/invoke/VarHandle") ∧
    ((mv_hh z = [] ∧ Cond.code (mv_y z) (mv_by z) (mv_m z).2.2.1 (mv_rt z) ∈ mv_G) ∨ (Cond.codeWith (mv_y z) (mv_by z) (mv_m z).2.2.1 (mv_rt z) (mv_hh z) ∈ mv_G ∧ mv_sb z = true ∧ mv_hh z ≠ [])) ∧
    ((mv_sb z = true ∧ Cond.static (mv_y z) ∈ mv_G ∧ (parseMethodDescriptor (mv_y z).desc).map (fun d => d.parameters.length) = some (mv_m z).2.1) ∨
     (mv_sb z = false ∧ (parseMethodDescriptor (mv_y z).desc).map (fun d => d.parameters.length + 1) = some (mv_m z).2.1 ∧ (mv_m z).2.2.2.2.1 < 5 ∧ mv_cn (mv_m z).2.2.2.2.1 = mv_ow z ∧ Cond.instanceMethod (mv_y z) ∈ mv_G ∧
       (((mv_y z).name = "<init>" ∧ (mv_m z).2.2.2.1 = 3) ∨ Cond.selects (mv_ow z) (mv_y z) (mv_y z) ∈ mv_G))) := by
  have h := mv_mkA z hz
  generalize mv_mp.getD z [] = pl at h
  unfold mv_mk at h
  split at h
  · rename_i c i r
    simp only [Bool.and_eq_true] at h
    obtain ⟨⟨⟨⟨⟨⟨⟨⟨⟨a1, a2⟩, a3⟩, a4⟩, a5⟩, a6⟩, a7⟩, a8⟩, a9⟩, a10⟩ := h
    refine ⟨mv_G_in (mv_at_in a1) rfl, ⟨of_decide_eq_true a3, of_decide_eq_true a4⟩, ?_, ?_⟩
    · split at a9
      · exact Or.inl ⟨List.isEmpty_iff.mp ‹_›, mv_G_in (mv_at_in a9) rfl⟩
      · obtain ⟨b1, b2⟩ := (Bool.and_eq_true _ _).mp a9
        rename_i hne
        exact Or.inr ⟨mv_G_in (mv_at_in b1) rfl, b2, fun hz9 => hne (List.isEmpty_iff.mpr hz9)⟩
    · split at a10
      · rename_i hsb
        split at a10
        · obtain ⟨b1, b2⟩ := (Bool.and_eq_true _ _).mp a10
          exact Or.inl ⟨hsb, mv_G_in (mv_at_in b1) rfl, of_decide_eq_true b2⟩
        · cases a10
      · rename_i hsb
        have hsb : mv_sb z = false := by
          cases hq : mv_sb z with
          | true => exact absurd hq hsb
          | false => rfl
        simp only [Bool.and_eq_true] at a10
        obtain ⟨⟨⟨b1, b2⟩, b3⟩, b4⟩ := a10
        refine Or.inr ⟨hsb, of_decide_eq_true b1, of_decide_eq_true b2, of_decide_eq_true b3, ?_⟩
        split at b4
        · simp only [Bool.and_eq_true] at b4
          obtain ⟨⟨d1, d2⟩, d3⟩ := b4
          exact ⟨mv_G_in (mv_at_in d1) rfl, Or.inl ⟨of_decide_eq_true d2, of_decide_eq_true d3⟩⟩
        · obtain ⟨d1, d2⟩ := (Bool.and_eq_true _ _).mp b4
          exact ⟨mv_G_in (mv_at_in d1) rfl, Or.inr (mv_G_in (mv_at_in d2) rfl)⟩
        · cases b4
  · rcases (Bool.or_eq_true _ _).mp h with h | h
    · exact absurd (of_decide_eq_true h) h3
    · have := of_decide_eq_true h; omega
theorem mv_metR {l : Launch} {y : MethodName} {ws : List Cond} {rm : Room} {Pc : Array Value → State → Prop} {Qc : Array Value → State → Outcome → State → Prop} {XC : String → State → State → Prop} {mc ms : Nat} {free : Addr → Prop} (h : vx_Met l y ws rm Pc Qc XC mc ms free) (hx : ∀ E st t, ¬ XC E st t) : Met l y ws rm Pc Qc mc ms free := by
  intro p e ha hc hk s m args below hf happ hP hK
  obtain ⟨n, o, h1, h2, h3, h4⟩ := h p e ha hc hk s m args below hf happ hP hK
  refine ⟨n, o, h1, h2, h3, ?_⟩
  rcases h4 with h4 | ⟨q, -, E, ce, L, h5, -⟩
  · exact h4
  · exact absurd h5 (hx _ _ _)
theorem mv_in0 : (List.range 206).all (fun z => decide ((mv_y z).name ≠ "<init>") || decide (mv_rt z = none)) = true := by decide +kernel
theorem mv_fr9 : (List.range 206).all (fun y => decide (mv_fr y ≤ 9)) = true := by decide +kernel
theorem mv_met {l : Launch} {D : va_G} {bs base L : Nat} {xs : Nat → Int32} {N : Nat} (IH : mv_Sim l D bs base L xs N) (hst : l.stackTraces = false) {z : Nat} (hz : z < 206) (h3 : z ≠ 3) {c c1 : mv_C} {h h1 : mv_H} {r1 : mv_R} {As : List Value} {avs : List mv_V}
    (hrun : mv_run ((L : Int), fun j => (xs j.toNat).toInt) N z 0 (mv_ent avs (mv_m z).2.2.1) [] c h = some (r1, c1, h1)) (hent : (mv_ents avs).length ≤ (mv_m z).2.2.1) {s : State} {H : Heap} {locs : List Loc} {ws : va_W} {ι : Int → Nat}
    (hF : mv_Fx D bs base L xs s) (hP : va_P D mv_cl ws H) (hD : va_D (mv_A base) ws) (hS : va_S (mv_A base) s.heap H locs) (hw : mv_w s ι c.1 h ws) (hav : mv_rs ι c.1 bs avs As) {w0 : Cond}
    (hw0 : (w0 = Cond.code (mv_y z) (mv_by z) (mv_m z).2.2.1 (mv_rt z) ∧ mv_hh z = []) ∨ w0 = Cond.codeWith (mv_y z) (mv_by z) (mv_m z).2.2.1 (mv_rt z) (mv_hh z)) :
    vx_Met l (mv_y z) [w0] { frames := mv_fr z, cells := c1.2.1 - c.2.1, slots := c1.2.2 - c.2.2, locals := mv_lo z } (fun a U => a = As.toArray ∧ U.heap = H ∧ s.WarmedH U.vm) (mv_QC D bs base ι c.1 r1 c1 h1) (mv_XC D base ι c.1 r1 c1 h1) (c1.2.1 - c.2.1) (c1.2.2 - c.2.2) (mv_A base) := by
  have hpf : plainFor (mv_y z) = true := by
    rcases (Bool.or_eq_true _ _).mp (mv_all mv_pf0 hz) with hh | hh
    · exact absurd (beq_iff_eq.mp hh) h3
    · exact hh
  refine mv_ofW (hh := mv_hh z) hpf hw0 ?_
  intro p e s2 m2 args2 below2 meth2 cd2 s₁ B hml hxt hPc
  obtain ⟨rfl, hH, hW⟩ := hPc
  rw [lg_entry_eq]
  exact IH z 0 _ [] c h r1 c1 h1 hrun p e _ s2 m2 _ below2 meth2 cd2 s2.heap [] 0 0 _ _ ι _ [] ι c.1
    ⟨B.exec, B.bytes, hml, B.returns, B.notSynchronized, findClass_of_methodNamed B.named, fun hi => (name_of_methodNamed B.named B.method).1.trans hi, hxt, hst, hF.moved hW (by rw [hH]; exact hS)⟩ (Nat.le_refl _) (Nat.le_refl _)
    ⟨ws, by rw [hH]; exact hP, hD, va_S.rf, mv_w_mv hW.alike hw, mv_rl_ent hav hent, trivial⟩ (fun _ _ _ => rfl) (Nat.le_refl _) (by omega) (by omega) (Nat.le_refl _) (Nat.le_refl _)
section RUN
variable {p : Program} {l : Launch} {e : Env} {R : Room} {s : State} {m : MethodId} {args : Array Value} {below : List Frame} {meth : Method} {cd : Code} {H : Heap} {locs : List Loc} {cells slots : Nat} {Q : State → Prop}
variable {y pc : Nat} {D : va_G} {bs base L : Nat} {xs : Nat → Int32} {ι : Int → Nat} {n : Nat} {h : mv_H} {lsr : Array Slot} {str : List Value} {ls st : List mv_V} {i : Instr} {a : Int}
theorem mv_Snext {st0 t : State} {T' : State} {Lc : List Loc} (hS : va_S (mv_A base) s.heap H locs) (e0 : st0.heap = H) (e1 : T'.heap = t.heap) (hFr : va_F (mv_A base) st0 t) (hL : ∀ q ∈ Lc, mv_A base q.base) : va_S (mv_A base) s.heap T'.heap (locs ++ Lc) := by
  obtain ⟨f1, f2⟩ := hFr
  rw [e0] at f1 f2
  exact ⟨Nat.le_trans hS.1 (by rw [e1]; exact f1), fun q h1 h2 => by rw [e1, f2 q (Nat.lt_of_lt_of_le h1 hS.1) h2]; exact hS.2.1 q h1 h2, fun x hx => (List.mem_append.mp hx).elim (hS.2.2 x) (hL x)⟩
/-- behind a call that returned -/
theorem mv_fin {c c1 : mv_C} {h1 : mv_H} {r1 : mv_R} {a9 : Array Value} {q : List Value} {ws : va_W} {ι : Int → Nat} {nL : Nat} (hS : va_S (mv_A base) s.heap H locs) (hl : mv_rl ι c.1 bs ls nL lsr) (hq : mv_rs ι c.1 bs st q)
    (hR : va_Run p l e R s m args below meth cd H locs cells slots (c1.2.1 - c.2.1) (c1.2.2 - c.2.2) (F0 m pc lsr str) q (mv_QC D bs base ι c.1 r1 c1 h1 a9) (mv_A base))
    (K : ∀ (H1 : Heap) (locs1 : List Loc) (ι1 : Int → Nat) (str1 : List Value), mv_Rl D s bs base ι1 c1.1 h1 H1 locs1 nL lsr str1 ls (if r1.1 = 3 then st else r1 :: st) → (∀ j : Int, 0 ≤ j → j < c.1 → ι1 j = ι j) → W p l e R s m args below meth cd H1 locs1 (cells + (c1.2.1 - c.2.1)) (slots + (c1.2.2 - c.2.2)) Q (F0 m (pc + 3) lsr str1)) :
    W p l e R s m args below meth cd H locs cells slots Q (F0 m pc lsr str) := by
  intro T hT X
  obtain ⟨v, st₀, t, T', Lc, e0, X', hL, e1, e2, ⟨ι', ws', g1, g2, g3, g4, g5, g6, g7⟩, hgo⟩ := hR T hT X
  have hW' : s.WarmedH t.vm := by rw [← e2]; exact X'.warmed
  have hw' := mv_w_mv hW'.alike.symm g5
  have hP' : va_P D mv_cl ws' T'.heap := by rw [e1]; exact g3
  have hS' := mv_Snext hS e0 e1 g6 hL
  have go : ∀ str1, mv_rs ι' c1.1 bs (if r1.1 = 3 then st else r1 :: st) str1 → v.toList ++ q = str1 → ∃ t2, Steps p.tables e below (T.setTop (F0 m pc lsr str)) t2 ∧ Q t2 := fun str1 hs1 he => by
    obtain ⟨t2, a1, b1⟩ := K T'.heap (locs ++ Lc) ι' str1 ⟨ws', hP', g4, hS', hw', mv_rl_up g1 g2 hl, hs1⟩ g1 T' rfl X'
    subst he
    exact ⟨t2, hgo t2 a1, b1⟩
  rcases g7 with ⟨h3, h4⟩ | ⟨h3, x, h4, h5⟩
  · cases h4
    exact go q (by rw [if_pos h3]; exact mv_rs_up g1 g2 _ _ hq) rfl
  · cases h4
    exact go (x :: q) (by rw [if_neg (by omega)]; exact ⟨h5, mv_rs_up g1 g2 _ _ hq⟩) rfl
theorem mv_hnd_spec : ∀ (hh : List (Nat × Nat × Nat × Nat)) (pc : Nat) (E : Int) (hp : Nat), mv_hnd (hh.map fun q => (q.1, q.2.1, q.2.2.1, mv_ce q.2.2.2)) pc E = some hp →
    ∃ (pre : List (Nat × Nat × Nat × Nat)) (x : Nat × Nat × Nat × Nat) (suf : List (Nat × Nat × Nat × Nat)), hh = pre ++ x :: suf ∧ (∀ z ∈ pre, ¬ (z.1 ≤ pc ∧ pc < z.2.1) ∨ (mv_ce z.2.2.2 : Int) ≠ E) ∧ x.1 ≤ pc ∧ pc < x.2.1 ∧ (mv_ce x.2.2.2 : Int) = E ∧ x.2.2.1 = hp
  | [], pc, E, hp, h => by cases h
  | w :: r, pc, E, hp, h => by
    rw [List.map_cons, mv_hnd] at h
    split at h
    · cases h
      rename_i hc
      exact ⟨[], w, r, rfl, (fun z hz => by cases hz), hc.1, hc.2.1, hc.2.2, rfl⟩
    · rename_i hc
      obtain ⟨pre, x, suf, h1, h2, h3⟩ := mv_hnd_spec r pc E hp h
      refine ⟨w :: pre, x, suf, by rw [h1]; rfl, fun z hz => ?_, h3⟩
      rcases List.mem_cons.mp hz with rfl | hz
      · by_cases h4 : z.1 ≤ pc ∧ pc < z.2.1
        · exact Or.inr (fun h5 => hc ⟨h4.1, h4.2, h5⟩)
        · exact Or.inl h4
      · exact h2 z hz
theorem mv_ki1 (h1 : mv_ki i a = 1) : (∃ k, i = .invokevirtual k) ∨ (∃ k, i = .invokespecial k) ∨ ∃ k, i = .invokestatic k := by
  cases i <;> simp only [mv_ki] at h1 <;> first
    | (cases h1; done)
    | exact Or.inl ⟨_, rfl⟩
    | exact Or.inr (Or.inl ⟨_, rfl⟩)
    | exact Or.inr (Or.inr ⟨_, rfl⟩)
    | (split at h1 <;> cases h1)
theorem mv_ki3 (h1 : mv_ki i a ≠ 0) (h2 : mv_ki i a ≠ 1) (h3 : mv_ki i a ≠ 2) : ∃ k, i = .new k ∧ a < 0 := by
  cases i <;> simp only [mv_ki] at h1 h2 h3 <;> first
    | exact absurd rfl h1
    | exact absurd rfl h2
    | exact absurd rfl h3
    | (split at h1
       · exact ⟨_, rfl, ‹_›⟩
       · exact absurd rfl h1)
end RUN
end
section
/-! the main row: what the small machine does, the real one does -/
section MN
variable {p : Program} {l : Launch} {e : Env} {R : Room} {s : State} {m : MethodId} {args : Array Value} {below : List Frame} {meth : Method} {cd : Code} {H : Heap} {locs : List Loc} {cells slots mc ms : Nat} {Q : State → Prop}
variable {y pc : Nat} {D : va_G} {bs base L : Nat} {xs : Nat → Int32} {ι ι0 : Int → Nat} {n n0 : Nat} {h : mv_H} {lsr : Array Slot} {str : List Value} {ls st : List mv_V} {i : Instr} {a : Int}
theorem mv_get_mem : ∀ (k : mv_K) (pc : Nat) (i : Instr) (a : Int), mv_get k pc = some (i, a) → (pc, i, a) ∈ k
  | [], _, _, _, h => by cases h
  | (q, i0, a0) :: k, pc, i, a, h => by
    unfold mv_get at h
    cases hb : Nat.beq q pc with
    | true =>
      rw [hb] at h
      cases h
      have := Nat.eq_of_beq_eq_true hb
      subst this
      exact List.mem_cons_self
    | false =>
      rw [hb] at h
      exact List.mem_cons_of_mem _ (mv_get_mem k pc i a h)
theorem mv_endW {r : mv_R} {c : mv_C} (X : mv_Cx p l m args meth cd y D bs base L xs s) (hg : mv_get (mv_m y).1 pc = some (i, a)) (hr : mv_ret (mv_m y).2.2.2.1 i st = some r) (rel : mv_Rl D s bs base ι c.1 h H locs (mv_m y).2.2.1 lsr str ls st)
    (hι : ∀ j : Int, 0 ≤ j → j < n0 → ι j = ι0 j) (hn : n0 ≤ c.1) (hc : cells ≤ mc) (hs : slots ≤ ms) :
    W p l e R s m args below meth cd H locs cells slots (vx_MQ below (mv_QC D bs base ι0 n0 r c h) (mv_XC D base ι0 n0 r c h) args s mc ms (mv_A base)) (F0 m pc lsr str) := by
  obtain ⟨hx, hb, hml, hret, hlk, hown, hnm, hxt, hst0, hF⟩ := id X
  obtain ⟨ws, hP, hD, hS, hw, hl, hst⟩ := rel
  have hd := mv_dec hg
  have hrk := mv_all mv_rk0 (mv_y206 hg)
  generalize (mv_m y).2.2.2.1 = k at hr hrk
  cases i <;> simp only [mv_ret] at hr <;> first | (cases hr; done) | skip
  · -- areturn
    split at hr
    · rename_i z
      split at hr
      · rename_i hk
        cases hr
        subst hk
        obtain ⟨q1, rfl, h0, h1, h2⟩ := mv_rs_r hst
        cases mv_rs_n h2
        have hrt : ∃ nm, mv_rt y = some (.object nm) := by
          revert hrk
          unfold mv_rkt
          generalize mv_rt y = rt
          intro hrk
          match rt, hrk with
          | some (.object nm), _ => exact ⟨nm, rfl⟩
        obtain ⟨nm, hrt⟩ := hrt
        exact vx_ret (W.widen hc hs (W.aret hx hb (hret.trans hrt) (Or.inl ⟨nm, rfl⟩) (Or.inr ⟨_, rfl⟩) (fun t ht hW => ⟨ι, ws, hι, hn, by rw [ht]; exact hP, hD, mv_w_mv hW.alike hw, hS.F ht, Or.inr ⟨(by show (2 : Nat) < 3; decide), _, rfl, ⟨h0, h1, rfl⟩⟩⟩) hS.2.2 hd hlk))
      · cases hr
    · cases hr
  · -- ireturn
    split at hr
    · rename_i z
      split at hr
      · rename_i hk
        cases hr
        obtain ⟨q1, rfl, h2⟩ := mv_rs_i hst
        cases mv_rs_n h2
        rcases hk with rfl | ⟨rfl, hz⟩
        · exact vx_ret (W.widen hc hs (W.iret hx hb (hret.trans (of_decide_eq_true hrk)) (fun t ht hW => ⟨ι, ws, hι, hn, by rw [ht]; exact hP, hD, mv_w_mv hW.alike hw, hS.F ht, Or.inr ⟨(by show (0 : Nat) < 3; decide), _, rfl, rfl⟩⟩) hS.2.2 hd hlk))
        · exact vx_ret (W.widen hc hs (W.zret hx hb (hret.trans (of_decide_eq_true hrk)) (by rcases hz with rfl | rfl <;> rfl) (fun t ht hW => ⟨ι, ws, hι, hn, by rw [ht]; exact hP, hD, mv_w_mv hW.alike hw, hS.F ht, Or.inr ⟨(by show (0 : Nat) < 3; decide), _, rfl, rfl⟩⟩) hS.2.2 hd hlk))
      · cases hr
    · cases hr
  · -- lreturn
    split at hr
    · rename_i z
      split at hr
      · rename_i hk
        cases hr
        subst hk
        obtain ⟨q1, rfl, h2⟩ := mv_rs_j hst
        cases mv_rs_n h2
        exact vx_ret (W.widen hc hs (W.lret hx hb (hret.trans (of_decide_eq_true hrk)) (fun t ht hW => ⟨ι, ws, hι, hn, by rw [ht]; exact hP, hD, mv_w_mv hW.alike hw, hS.F ht, Or.inr ⟨(by show (1 : Nat) < 3; decide), _, rfl, rfl⟩⟩) hS.2.2 hd hlk))
      · cases hr
    · cases hr
  · -- return
    split at hr
    · split at hr
      · rename_i hk
        cases hr
        subst hk
        cases mv_rs_n hst
        exact vx_ret (W.widen hc hs (W.vret hx hb (hret.trans (of_decide_eq_true hrk)) (fun t ht hW => ⟨ι, ws, hι, hn, by rw [ht]; exact hP, hD, mv_w_mv hW.alike hw, hS.F ht, Or.inl ⟨rfl, rfl⟩⟩) hS.2.2 hd hlk))
      · cases hr
    · cases hr
theorem mv_hh0 (hy : y < 206) (h0 : (mv_m y).2.2.2.2.2 = []) : mv_hh y = [] := by
  have h1 := mv_all mv_hd0 hy
  simp only [Bool.and_eq_true] at h1
  have h2 := of_decide_eq_true h1.1.1
  rw [h0] at h2
  exact (List.map_eq_nil_iff.mp h2.symm)
theorem mv_thrW {k : Nat} {c : mv_C} (X : mv_Cx p l m args meth cd y D bs base L xs s) (hg : mv_get (mv_m y).1 pc = some (.new k, a)) (ha : a < 0) (hh0 : (mv_m y).2.2.2.2.2 = []) (rel : mv_Rl D s bs base ι c.1 h H locs (mv_m y).2.2.1 lsr str ls [])
    (hfr : mv_fr y ≤ R.frames) (hlo : mv_lo y ≤ R.locals) (hι : ∀ j : Int, 0 ≤ j → j < n0 → ι j = ι0 j) (hn : n0 ≤ c.1) (hc : cells + 1 ≤ mc) (hs : slots + 6 ≤ ms) (hmc : mc ≤ R.cells) (hms : ms ≤ R.slots) :
    W p l e R s m args below meth cd H locs cells slots (vx_MQ below (mv_QC D bs base ι0 n0 (4, -1 - a) (c.1, c.2.1 + 1, c.2.2 + 6) h) (mv_XC D base ι0 n0 (4, -1 - a) (c.1, c.2.1 + 1, c.2.2 + 6) h) args s mc ms (mv_A base)) (F0 m pc lsr str) := by
  obtain ⟨hx, hb, hml, hret, hlk, hown, hnm, hxt, hst0, hF⟩ := id X
  obtain ⟨ws, hP, hD, hS, hw, hl, hst⟩ := rel
  cases mv_rs_n hst
  have hy := mv_y206 hg
  have hd := mv_dec hg
  have h1 := List.all_eq_true.mp (mv_all mv_tk0 hy) _ (mv_get_mem _ _ _ _ hg)
  have h2 : mv_tk y pc a = true := by
    rcases (Bool.or_eq_true _ _).mp h1 with h2 | h2
    · have := of_decide_eq_true h2
      have h9 : 0 ≤ a := this
      omega
    · exact h2
  obtain ⟨q, hq, hq2⟩ := List.any_eq_true.mp h2
  simp only [Bool.and_eq_true] at hq2
  obtain ⟨⟨e1, e2⟩, e3⟩ := hq2
  have e1 := Nat.eq_of_beq_eq_true e1
  have e2 := Nat.eq_of_beq_eq_true e2
  have e3 := of_decide_eq_true e3
  have htd := List.all_eq_true.mp mv_td0 q hq
  obtain ⟨q1, q2, qw, qi, qt, qE⟩ := q
  dsimp only at e1 e2 e3
  subst e1
  subst e2
  simp only [mv_tdk, Bool.and_eq_true] at htd
  obtain ⟨⟨⟨⟨⟨⟨t1, t2⟩, t3⟩, t4⟩, t5⟩, t6⟩, t7⟩ := htd
  have u1 := of_decide_eq_true t1
  have u2 := of_decide_eq_true t2
  have u3 := of_decide_eq_true t3
  have u4 := of_decide_eq_true t4
  have u5 := of_decide_eq_true t5
  have u6 := of_decide_eq_true t6
  have hE : (-1 - a).toNat = qE := by omega
  obtain ⟨pl, hpl⟩ := mv_pool hg
  have hlk2 : (Cond.classLink (mv_ow q1) k (mv_xn qE)).before args s = true := by
    match pl, hpl with
    | [z], hpl =>
      have hpl : (if a < 0 then mv_at (.classLink (mv_ow q1) k (mv_xn (-1 - a).toNat)) z && decide (mv_ow q1 = "LineTemplates") && decide (-3 ≤ a) && (mv_hh q1).isEmpty else _) = true := hpl
      rw [if_pos ha] at hpl
      simp only [Bool.and_eq_true] at hpl
      rw [hE] at hpl
      exact hF.1 _ (mv_G_in (mv_at_in hpl.1.1.1) rfl) _
    | [], hpl => cases hpl
    | _ :: _ :: _, hpl => cases hpl
  rw [u3] at hlk2 hown
  have hxw : mv_xw qE = true := by
    match qE, u2 with
    | 0, _ => exact mv_xw0.1
    | 1, _ => exact mv_xw0.2.1
    | 2, _ => exact mv_xw0.2.2
  simp only [mv_xw, Bool.and_eq_true] at hxw
  obtain ⟨⟨⟨x1, x2⟩, x3⟩, x4⟩ := hxw
  have x4 := of_decide_eq_true x4
  have hat : ∀ w ∈ vx_atS "LineTemplates" (mv_xi qE) (mv_xn qE) mv_xns, w.before args s = true := fun w hw9 => by
    have h9 := List.all_eq_true.mp x1 w hw9
    simp only [Bool.and_eq_true] at h9
    have h10 := of_decide_eq_true h9.1.1
    rcases (Bool.or_eq_true _ _).mp h9.1.2 with h11 | h11
    · exact hF.1 _ (mv_G_in h10 h11) _
    · exact va_Nw.use (by cases w <;> simp only [mv_nw] at h11 <;> first | rfl | cases h11) (hF.2.1 w h10 h11)
  have hgood : ∀ w ∈ Cond.classLink "LineTemplates" k (mv_xn qE) :: Cond.initialized (mv_xn qE) :: vx_atS "LineTemplates" (mv_xi qE) (mv_xn qE) mv_xns, vx_ot w = true := fun w hw9 => by
    rcases List.mem_cons.mp hw9 with rfl | hw9
    · rfl
    · rcases List.mem_cons.mp hw9 with rfl | hw9
      · rfl
      · have h9 := List.all_eq_true.mp x1 w hw9
        simp only [Bool.and_eq_true] at h9
        exact h9.2
  obtain ⟨sa, hsa⟩ := hF.2.2.2.2.2.1 _ u4
  have hsz : lsr.size = cd.maxLocals := by
    obtain ⟨-, lv, hlv, -⟩ := hl
    rw [hml]; exact hlv.1
  have hout : ∀ (pc9 : Nat), ∀ x ∈ cd.exceptionTable.toList, covers x pc9 = false := fun pc9 x hx9 => by
    rw [hxt, mv_hh0 hy hh0] at hx9
    cases hx9
  have hX : ∀ t : State, s.vm.Alike t.vm → H.size ≤ t.heap.size → (∀ q : Nat, q < H.size → t.heap[q]? = H[q]?) → mv_XC D base ι0 n0 (4, -1 - a) (c.1, c.2.1 + 1, c.2.2 + 6) h (mv_xn qE) s t := fun t hvm hz hk => by
    refine ⟨rfl, by show _ = mv_xn (-1 - a).toNat; rw [hE], ι, ws, hι, hn, hP.kept (fun k9 q9 hq9 => hk _ (hP k9 q9 hq9).lt), hD, mv_w_mv hvm hw, ⟨Nat.le_trans hS.1 hz, fun q9 h8 h9 => ?_⟩⟩
    rw [hk q9 (Nat.lt_of_lt_of_le h8 hS.1)]
    exact hS.2.1 q9 h8 h9
  cases qw with
  | true =>
    obtain ⟨⟨d4, d7⟩, d10⟩ := (by simpa only [Bool.and_eq_true, if_true] using t7 : (_ ∧ _) ∧ _)
    exact vx_throwSW hx hb hst0 hown x2 (List.all_eq_true.mp x3) hlk2 (hF.1 _ x4 _) hsa hat hgood hF.2.2.2.2.1.1 hF.2.2.2.2.1.2 hS hsz hd u1 (of_decide_eq_true d4) (of_decide_eq_true d7) (of_decide_eq_true d10) (hout _) (by show 2 + 3 < R.frames; omega) (by show 0 + (13 * (2 + 1) + 43) ≤ R.locals; omega) (by omega) (by omega) hlk hX hS.2.2 hc hs
  | false =>
    obtain ⟨⟨d4, d7⟩, d10⟩ := (by simpa only [Bool.and_eq_true, Bool.false_eq_true, if_false] using t7 : (_ ∧ _) ∧ _)
    exact vx_throwS hx hb hst0 hown x2 (List.all_eq_true.mp x3) hlk2 (hF.1 _ x4 _) hsa hat hgood hF.2.2.2.2.1.1 hF.2.2.2.2.1.2 hS hsz hd u1 (of_decide_eq_true d4) (of_decide_eq_true d7) (of_decide_eq_true d10) (hout _) (by show 2 + 3 < R.frames; omega) (by show 0 + (13 * (2 + 1) + 43) ≤ R.locals; omega) (by omega) (by omega) hlk hX hS.2.2 hc hs
end MN
end
section
section CL
variable {p : Program} {l : Launch} {e : Env} {R : Room} {s : State} {m : MethodId} {args : Array Value} {below : List Frame} {meth : Method} {cd : Code} {H : Heap} {locs : List Loc} {cells slots mc ms : Nat} {Q : State → Prop}
variable {y pc : Nat} {D : va_G} {bs base L : Nat} {xs : Nat → Int32} {ι ι0 : Int → Nat} {n n0 : Nat} {h : mv_H} {lsr : Array Slot} {str : List Value} {ls st : List mv_V} {i : Instr} {a : Int}
theorem mv_run206 {sc : Int × (Int → Int)} {N z pc : Nat} {ls st : List mv_V} {c : mv_C} {h : mv_H} {q : mv_R × mv_C × mv_H} (hr : mv_run sc N z pc ls st c h = some q) : z < 206 := by
  cases N with
  | zero => cases hr
  | succ N =>
    rw [mv_run] at hr
    split at hr
    · cases hr
    · exact mv_y206 ‹_›
/-- behind a call that threw -/
theorem mv_finX {c c1 : mv_C} {h1 : mv_H} {r1 : mv_R} {a9 : Array Value} {q : List Value} {ι : Int → Nat} (hS : va_S (mv_A base) s.heap H locs) (h4 : r1.1 = 4)
    (hR : vx_Run p l e R s m args below meth cd H locs cells slots (c1.2.1 - c.2.1) (c1.2.2 - c.2.2) (F0 m pc lsr str) q (mv_QC D bs base ι c.1 r1 c1 h1 a9) (mv_XC D base ι c.1 r1 c1 h1) (mv_A base))
    (Kx : ∀ (H1 : Heap) (locs1 : List Loc) (ι1 : Int → Nat) (ws1 : va_W) (ce : Cell) (x : Addr), va_P D mv_cl ws1 H1 → va_D (mv_A base) ws1 → va_S (mv_A base) s.heap H1 locs1 → mv_w s ι1 c1.1 h1 ws1 → (∀ j : Int, 0 ≤ j → j < c.1 → ι1 j = ι j) → c.1 ≤ c1.1 → H1[x]? = some ce → ce.vm = .none → s.vm.findClass (mv_xn r1.2.toNat) = some ce.cls →
      vx_W p l e R s m args below meth cd H1 locs1 (cells + (c1.2.1 - c.2.1)) (slots + (c1.2.2 - c.2.2)) Q (F0 m pc lsr q) x) :
    W p l e R s m args below meth cd H locs cells slots Q (F0 m pc lsr str) := by
  intro T hT X
  rcases hR T hT X with ⟨v, st₀, t, T', Lc, e0, X', hL, e1, e2, ⟨ι', ws', g1, g2, g3, g4, g5, g6, g7⟩, hgo⟩ | ⟨x, st₀, t, T', Lc, E, ce, e0, X', hL, e1, e2, ⟨-, rfl, ι', ws', g1, g2, g3, g4, g5, g6⟩, k1, k2, k3, hgo⟩
  · omega
  · have hW' : s.WarmedH t.vm := by rw [← e2]; exact X'.warmed
    obtain ⟨t2, a1, b1⟩ := Kx T'.heap (locs ++ Lc) ι' ws' ce x (by rw [e1]; exact g3) g4 (mv_Snext hS e0 e1 g6 hL) (mv_w_mv hW'.alike.symm g5) g1 g2 (by rw [e1]; exact k1) k2 k3 T' rfl X'
    exact ⟨t2, hgo.trans a1, b1⟩
theorem mv_good {w : Cond} (hF : mv_Fx D bs base L xs s) (hw : w ∈ mv_G) : ∀ v ∈ [w], ∀ (a' : Array Value) (U : State), s.WarmedH U.vm → v.before a' U = true := fun v hv a' U hW => by
  rw [List.mem_singleton.mp hv]
  exact word_at hW (good_of_word (List.mem_filter.mp hw).2) (hF.1 w hw #[])
theorem mv_blind {As : List Value} {H : Heap} {s : State} : FrameBlind (fun a U => a = As.toArray ∧ U.heap = H ∧ s.WarmedH U.vm) := fun _ _ _ _ h => ⟨h.1, h.2.1, h.2.2⟩
theorem mv_call {N : Nat} (IH : mv_Sim l D bs base L xs N) {c c1 : mv_C} {h1 : mv_H} {r1 : mv_R} (X : mv_Cx p l m args meth cd y D bs base L xs s) (hg : mv_get (mv_m y).1 pc = some (i, a)) (hki : mv_ki i a = 1)
    (hc1 : (mv_m (mv_z a)).2.1 ≤ st.length) (hc2 : st.length ≤ (mv_m (mv_z a)).2.1 + 4) (hc3 : mv_rc i (mv_z a) (st.take (mv_m (mv_z a)).2.1).reverse h = true) (hc4 : (mv_ents (st.take (mv_m (mv_z a)).2.1).reverse).length ≤ (mv_m (mv_z a)).2.2.1)
    (hrun : mv_run ((L : Int), fun j => (xs j.toNat).toInt) N (mv_z a) 0 (mv_ent (st.take (mv_m (mv_z a)).2.1).reverse (mv_m (mv_z a)).2.2.1) [] c h = some (r1, c1, h1))
    (rel : mv_Rl D s bs base ι c.1 h H locs (mv_m y).2.2.1 lsr str ls st) (hfr : mv_fr y ≤ R.frames) (hlo : mv_lo y ≤ R.locals) (hcs : cells + (c1.2.1 - c.2.1) ≤ R.cells) (hss : slots + (c1.2.2 - c.2.2) ≤ R.slots)
    (Kr : r1.1 ≠ 4 → ∀ (H1 : Heap) (locs1 : List Loc) (ι1 : Int → Nat) (str1 : List Value), mv_Rl D s bs base ι1 c1.1 h1 H1 locs1 (mv_m y).2.2.1 lsr str1 ls (if r1.1 = 3 then st.drop (mv_m (mv_z a)).2.1 else r1 :: st.drop (mv_m (mv_z a)).2.1) → (∀ j : Int, 0 ≤ j → j < c.1 → ι1 j = ι j) → W p l e R s m args below meth cd H1 locs1 (cells + (c1.2.1 - c.2.1)) (slots + (c1.2.2 - c.2.2)) Q (F0 m (pc + 3) lsr str1))
    (Kx : r1.1 = 4 → (a < 1000 ∧ mv_nsp i = true ∧ (mv_m (mv_z a)).2.2.2.2.2 = []) ∧ ∀ (H1 : Heap) (locs1 : List Loc) (ι1 : Int → Nat) (ws1 : va_W) (ce : Cell) (x : Addr) (rest : List Value), va_P D mv_cl ws1 H1 → va_D (mv_A base) ws1 → va_S (mv_A base) s.heap H1 locs1 → mv_w s ι1 c1.1 h1 ws1 → (∀ j : Int, 0 ≤ j → j < c.1 → ι1 j = ι j) → c.1 ≤ c1.1 → mv_rl ι1 c1.1 bs ls (mv_m y).2.2.1 lsr → H1[x]? = some ce → ce.vm = .none → s.vm.findClass (mv_xn r1.2.toNat) = some ce.cls →
      vx_W p l e R s m args below meth cd H1 locs1 (cells + (c1.2.1 - c.2.1)) (slots + (c1.2.2 - c.2.2)) Q (F0 m pc lsr rest) x) :
    W p l e R s m args below meth cd H locs cells slots Q (F0 m pc lsr str) := by
  obtain ⟨hx, hb, hml, hret, hlk, hown, hnm, hxt, hst0, hF⟩ := id X
  obtain ⟨ws, hP, hD, hS, hw, hl, hst⟩ := rel
  have hd := mv_dec hg
  have hz := mv_run206 hrun
  obtain ⟨vs, q, rfl, hvl, hvs, hq⟩ := mv_rs_app _ st str hc1 hst
  have hav := mv_rs_rev _ _ hvs
  have hql : q.length ≤ 4 := by
    have h9 := mv_rs_len _ _ hq
    rw [List.length_drop] at h9
    omega
  have hsum : (q.map fun v => v.category).sum ≤ 8 := by
    have := mv_rs_sum q
    omega
  have hroom : 2 * (F0 m pc lsr (vs ++ q)).monitorRoom + (q.map fun v => v.category).sum ≤ 8 := lv_room hsum
  have hsz : lsr.size = (mv_m y).2.2.1 := by
    obtain ⟨-, lv, hlv, -⟩ := hl
    exact hlv.1
  have S : CallFix p m cd (mv_by y) (mv_m y).2.2.1 s args mv_G (mv_ow y) := ⟨hx, hb, hml, hown, fun w hw9 => hF.1 w hw9 args⟩
  obtain ⟨pl, hpl⟩ := mv_pool hg
  have fin : ∀ a9 : Array Value, r1.1 ≠ 4 → va_Run p l e R s m args below meth cd H locs cells slots (c1.2.1 - c.2.1) (c1.2.2 - c.2.2) (F0 m pc lsr (vs ++ q)) q (mv_QC D bs base ι c.1 r1 c1 h1 a9) (mv_A base) → W p l e R s m args below meth cd H locs cells slots Q (F0 m pc lsr (vs ++ q)) := fun a9 h4 hR =>
    mv_fin (st := st.drop (mv_m (mv_z a)).2.1) (ws := ws) hS hl hq hR (fun H1 locs1 ι1 str1 r e => Kr h4 H1 locs1 ι1 str1 r e)
  have finX : ∀ a9 : Array Value, r1.1 = 4 → vx_Run p l e R s m args below meth cd H locs cells slots (c1.2.1 - c.2.1) (c1.2.2 - c.2.2) (F0 m pc lsr (vs ++ q)) q (mv_QC D bs base ι c.1 r1 c1 h1 a9) (mv_XC D base ι c.1 r1 c1 h1) (mv_A base) → W p l e R s m args below meth cd H locs cells slots Q (F0 m pc lsr (vs ++ q)) := fun a9 h4 hR =>
    mv_finX hS h4 hR (fun H1 locs1 ι1 ws1 ce x w1 w2 w3 w4 w5 w6 w7 w8 w9 => (Kx h4).2 H1 locs1 ι1 ws1 ce x q w1 w2 w3 w4 w5 w6 (mv_rl_up w5 w6 hl) w7 w8 w9)
  have hnoX : r1.1 ≠ 4 → ∀ E st t, ¬ mv_XC D base ι c.1 r1 c1 h1 E st t := fun h4 E st t hX => h4 hX.1
  -- the object of a call with a receiver
  have frk : ∀ (pl : Bool), True := fun _ => trivial
  clear frk
  have hcell : cells + (c1.2.1 - c.2.1) ≤ R.cells ∧ slots + (c1.2.2 - c.2.2) ≤ R.slots := ⟨hcs, hss⟩
  rcases mv_ki1 hki with ⟨k, rfl⟩ | ⟨k, rfl⟩ | ⟨k, rfl⟩
  · -- virtual
    match pl, hpl with
    | [q9], hpl =>
      have hpl : ((if a < 1000 then mv_at (.methodLink (mv_ow y) k (mv_y (mv_z a))) q9 else mv_at (.methodLinkNest (mv_ow y) k (mv_y (mv_z a)) "LineTemplates") q9) && decide (mv_fr (mv_z a) + 1 ≤ mv_fr y) && decide (8 + ((mv_m (mv_z a)).2.2.1 + 11) + mv_lo (mv_z a) ≤ mv_lo y) && (mv_sb (mv_z a) == false) && (mv_hh (mv_z a)).isEmpty && decide ((mv_y (mv_z a)).name ≠ "<init>")) = true := hpl
      simp only [Bool.and_eq_true] at hpl
      obtain ⟨⟨⟨⟨⟨p1, p2⟩, p3⟩, p4⟩, p5⟩, p6⟩ := hpl
      have p2 := of_decide_eq_true p2
      have p3 := of_decide_eq_true p3
      have p4 := beq_iff_eq.mp p4
      have p5 := List.isEmpty_iff.mp p5
      have p6 := of_decide_eq_true p6
      have z3 : mv_z a ≠ 3 := fun hz3 => p6 (by rw [hz3, mv_ob0.1]; rfl)
      have z5 : mv_z a ≠ 205 := fun hz5 => by
        have h9 := of_decide_eq_true (mv_all mv_fr9 (mv_y206 hg))
        rw [hz5] at p2
        have : mv_fr 205 = 9 := rfl
        omega
      obtain ⟨k1, k2, k3, k4⟩ := mv_mk_ok hz z3 z5
      rcases k4 with ⟨k4, -⟩ | ⟨-, k5, k6, k7, k8, k9⟩
      · rw [p4] at k4; cases k4
      rcases k3 with ⟨-, k3⟩ | ⟨-, k3, -⟩
      case inr => rw [p4] at k3; cases k3
      rcases k9 with ⟨k9, -⟩ | k9
      · exact absurd k9 p6
      have hM := mv_met IH hst0 hz z3 hrun hc4 hF hP hD hS hw hav (Or.inl ⟨rfl, p5⟩)
      -- the receiver
      generalize hAv : (st.take (mv_m (mv_z a)).2.1).reverse = avs at hav hc3 hM
      unfold mv_rc at hc3
      match avs, hav, hc3 with
      | (2, bz) :: avr, hav, hc3 =>
        have hc3 := of_decide_eq_true hc3
        cases hvr : vs.reverse with
        | nil => rw [hvr] at hav; exact hav.elim
        | cons x0 As =>
          rw [hvr] at hav hM
          obtain ⟨⟨b0, b1, rfl⟩, hav2⟩ := hav
          have hstk : vs ++ q = As.reverse ++ .ref (ι bz) :: q := by
            have : vs = (Value.ref (ι bz) :: As).reverse := by rw [← hvr, List.reverse_reverse]
            rw [this, List.reverse_cons, List.append_assoc]; rfl
          obtain ⟨e0, he0, hro⟩ := mv_w_at hw b0 b1
          obtain ⟨h5, fs, rfl, -⟩ := (by
            rcases hro with hro | ⟨hro, -⟩
            · exact hro
            · omega : (h bz).1 < 5 ∧ ∃ fs : List Value, e0 = .inr ((h bz).1, fs) ∧ fs.length = mv_fn (h bz).1 ∧ ∀ k : Nat, k < mv_fn (h bz).1 → ∃ v, fs[k]? = some v ∧ mv_rf ι c.1 (mv_ft (h bz).1 k) ((h bz).2.2 k) v)
          have hrecv := va_recv hF.2.2.1 hP (mv_cl_at _ h5) he0
          rw [hc3] at hrecv
          have hrecv : ∃ cell : Cell, H[ι bz]? = some cell ∧ cell.vm.isStatics = false ∧ s.vm.findClass (mv_ow (mv_z a)) = some cell.cls := by
            rw [← k7]; exact hrecv
          have hp : PreV s H (mv_ow (mv_z a)) (ι bz) (fun a9 U => a9 = (Value.ref (ι bz) :: As).toArray ∧ U.heap = H ∧ s.WarmedH U.vm) As := ⟨mv_blind, hrecv, fun U hU hW => ⟨rfl, hU, hW⟩⟩
          have hlen : ∀ sig, parseMethodDescriptor (mv_y (mv_z a)).desc = some sig → As.length = sig.parameters.length := fun sig hsig => by
            rw [hsig] at k5
            have h9 : sig.parameters.length + 1 = (mv_m (mv_z a)).2.1 := Option.some.inj k5
            have h10 : vs.reverse.length = As.length + 1 := by rw [hvr]; rfl
            rw [List.length_reverse, hvl] at h10
            omega
          by_cases ha : a < 1000
          · rw [if_pos ha] at p1
            have cw : CallW R s args (mv_ow y) (mv_ow (mv_z a)) k (mv_y (mv_z a)) (mv_by (mv_z a)) (mv_m (mv_z a)).2.2.1 (mv_rt (mv_z a)) [Cond.code (mv_y (mv_z a)) (mv_by (mv_z a)) (mv_m (mv_z a)).2.2.1 (mv_rt (mv_z a))] { frames := mv_fr (mv_z a), cells := c1.2.1 - c.2.1, slots := c1.2.2 - c.2.2, locals := mv_lo (mv_z a) } (c1.2.1 - c.2.1) (c1.2.2 - c.2.2) As.length :=
              ⟨⟨rfl, rfl, by show mv_fr _ + 1 ≤ _; omega, by show 8 + (_ + 11) + mv_lo _ ≤ _; omega, mv_good hF k3, List.mem_singleton.mpr rfl, hF.1 _ k3 _, hF.1 _ k1 _, k2, hlen, hF.1 _ (mv_G_in (mv_at_in p1) rfl) _⟩, hF.1 _ k8 _, hF.1 _ k9 _⟩
            by_cases h4 : r1.1 = 4
            · exact finX _ h4 (vx_runV S hM cw hp rfl rfl hsz hstk hroom hd hcell)
            · exact fin _ h4 (va_runV S (mv_metR hM (hnoX h4)) cw hp rfl rfl hsz hstk hroom hd hcell)
          · rw [if_neg ha] at p1
            have h4 : r1.1 ≠ 4 := fun h4 => ha (Kx h4).1.1
            exact fin _ h4 (va_runVN (host := "LineTemplates") S (mv_metR hM (hnoX h4)) ⟨⟨⟨rfl, rfl, by show mv_fr _ + 1 ≤ _; omega, by show 8 + (_ + 11) + mv_lo _ ≤ _; omega, mv_good hF k3, List.mem_singleton.mpr rfl⟩, hF.1 _ k3 _, hF.1 _ k1 _, k2, hlen, va_Nw.use rfl (hF.2.1 _ (mv_at_in p1) rfl)⟩, hF.1 _ k8 _, hF.1 _ k9 _⟩ hp rfl rfl hsz hstk hroom hd hcell)
    | [], hpl => cases hpl
    | _ :: _ :: _, hpl => cases hpl
  · -- special
    match pl, hpl with
    | [q9], hpl =>
      have hpl : ((if a < 1000 then mv_at (.methodLink (mv_ow y) k (mv_y (mv_z a))) q9 else mv_at (.methodLinkNest (mv_ow y) k (mv_y (mv_z a)) "LineTemplates") q9 && decide (mv_z a ≠ 3)) && decide (mv_fr (mv_z a) + 1 ≤ mv_fr y) && decide (8 + ((mv_m (mv_z a)).2.2.1 + 11) + mv_lo (mv_z a) ≤ mv_lo y) && (mv_sb (mv_z a) == false) && (mv_hh (mv_z a)).isEmpty && decide ((mv_y (mv_z a)).name = "<init>")) = true := hpl
      simp only [Bool.and_eq_true] at hpl
      obtain ⟨⟨⟨⟨⟨p1, p2⟩, p3⟩, p4⟩, p5⟩, p6⟩ := hpl
      have p2 := of_decide_eq_true p2
      have p3 := of_decide_eq_true p3
      have p4 := beq_iff_eq.mp p4
      have p5 := List.isEmpty_iff.mp p5
      have p6 := of_decide_eq_true p6
      generalize hAv : (st.take (mv_m (mv_z a)).2.1).reverse = avs at hav hc3 hc4 hrun
      unfold mv_rc at hc3
      match avs, hav, hc3, hc4, hrun with
      | (2, bz) :: avr, hav, hc3, hc4, hrun =>
        cases hvr : vs.reverse with
        | nil => rw [hvr] at hav; exact hav.elim
        | cons x0 As =>
          rw [hvr] at hav
          obtain ⟨⟨b0, b1, rfl⟩, hav2⟩ := id hav
          have hstk : vs ++ q = As.reverse ++ .ref (ι bz) :: q := by
            have : vs = (Value.ref (ι bz) :: As).reverse := by rw [← hvr, List.reverse_reverse]
            rw [this, List.reverse_cons, List.append_assoc]; rfl
          have hvl2 : As.length + 1 = (mv_m (mv_z a)).2.1 := by
            have h10 : vs.reverse.length = As.length + 1 := by rw [hvr]; rfl
            rw [List.length_reverse, hvl] at h10
            omega
          by_cases z3 : mv_z a = 3
          · by_cases ha : a < 1000
            · rw [if_pos ha, z3, mv_ob0.1] at p1
              rw [z3] at hrun hvl2 p3
              have hAs : As = [] := by
                have : (mv_m 3).2.1 = 1 := rfl
                exact List.length_eq_zero_iff.mp (by omega)
              subst hAs
              have hr9 : r1 = (3, 0) ∧ c1 = c ∧ h1 = h := by
                cases N with
                | zero => cases hrun
                | succ N =>
                  have : mv_run ((L : Int), fun j => (xs j.toNat).toInt) (N + 1) 3 0 (mv_ent ((2, bz) :: avr) (mv_m 3).2.2.1) [] c h = some ((3, 0), c, h) := rfl
                  rw [this] at hrun
                  cases hrun
                  exact ⟨rfl, rfl, rfl⟩
              obtain ⟨rfl, rfl, rfl⟩ := hr9
              have hstk2 : (F0 m pc lsr (vs ++ q)).stack = .ref (ι bz) :: q := hstk
              have h7 : (3 : Nat) < (mv_m 3).2.1 + 100 := by decide
              refine W.objInit hx hb hown (hF.1 _ (mv_G_in (mv_at_in p1) rfl) _) (hF.1 _ mv_ob0.2.1 _) (hF.1 _ mv_ob0.2.2.1 _) rfl (by show lsr.size = _; rw [hml]; exact hsz) hstk2 hd (by omega) (by
                have h8 : 2 * (F0 m pc lsr (vs ++ q)).monitorRoom + (q.map fun v => v.category).sum ≤ 8 := hroom
                have h9 : (mv_m 3).2.2.1 = 1 := rfl
                omega) ?_
              have := Kr (by decide) H locs ι q ⟨ws, hP, hD, hS, hw, hl, by rw [if_pos rfl]; exact hq⟩ (fun _ _ _ => rfl)
              simpa only [Nat.sub_self, Nat.add_zero] using this
            · rw [if_neg ha] at p1
              exact absurd z3 (of_decide_eq_true ((Bool.and_eq_true _ _).mp p1).2)
          · have z5 : mv_z a ≠ 205 := fun hz5 => by
              have h9 := of_decide_eq_true (mv_all mv_fr9 (mv_y206 hg))
              rw [hz5] at p2
              have : mv_fr 205 = 9 := rfl
              omega
            obtain ⟨k1, k2, k3, k4⟩ := mv_mk_ok hz z3 z5
            rcases k4 with ⟨k4, -⟩ | ⟨-, k5, k6, k7, k8, k9⟩
            · rw [p4] at k4; cases k4
            rcases k3 with ⟨-, k3⟩ | ⟨-, k3, -⟩
            case inr => rw [p4] at k3; cases k3
            have hrt : mv_rt (mv_z a) = none := by
              have h9 := mv_all mv_in0 hz
              rcases (Bool.or_eq_true _ _).mp h9 with h9 | h9
              · exact absurd p6 (of_decide_eq_true h9)
              · exact of_decide_eq_true h9
            have hM := mv_met IH hst0 hz z3 hrun hc4 hF hP hD hS hw hav (Or.inl ⟨rfl, p5⟩)
            rw [hrt] at k3 hM
            have hp : PreS s H (fun a9 U => a9 = (Value.ref (ι bz) :: As).toArray ∧ U.heap = H ∧ s.WarmedH U.vm) (.ref (ι bz) :: As) := ⟨mv_blind, fun U hU hW => ⟨rfl, hU, hW⟩⟩
            have hlen : ∀ sig, parseMethodDescriptor (mv_y (mv_z a)).desc = some sig → As.length = sig.parameters.length := fun sig hsig => by
              rw [hsig] at k5
              have h9 : sig.parameters.length + 1 = (mv_m (mv_z a)).2.1 := Option.some.inj k5
              omega
            have h4 : r1.1 ≠ 4 := fun h4 => by
              have h9 := (Kx h4).1.2.1
              cases h9
            by_cases ha : a < 1000
            · rw [if_pos ha] at p1
              exact fin _ h4 (va_runI S (mv_metR hM (hnoX h4)) ⟨⟨rfl, rfl, by show mv_fr _ + 1 ≤ _; omega, by show 8 + (_ + 11) + mv_lo _ ≤ _; omega, mv_good hF k3, List.mem_singleton.mpr rfl, hF.1 _ k3 _, hF.1 _ k1 _, k2, hlen, hF.1 _ (mv_G_in (mv_at_in p1) rfl) _⟩, p6, hF.1 _ k8 _⟩ hp rfl rfl hsz hstk hroom hd hcell)
            · rw [if_neg ha] at p1
              exact fin _ h4 (va_runIN (host := "LineTemplates") S (mv_metR hM (hnoX h4)) ⟨⟨⟨rfl, rfl, by show mv_fr _ + 1 ≤ _; omega, by show 8 + (_ + 11) + mv_lo _ ≤ _; omega, mv_good hF k3, List.mem_singleton.mpr rfl⟩, hF.1 _ k3 _, hF.1 _ k1 _, k2, hlen, va_Nw.use rfl (hF.2.1 _ (mv_at_in ((Bool.and_eq_true _ _).mp p1).1) rfl)⟩, p6, hF.1 _ k8 _⟩ hp rfl rfl hsz hstk hroom hd hcell)
    | [], hpl => cases hpl
    | _ :: _ :: _, hpl => cases hpl
  · -- static
    match pl, hpl with
    | [q9], hpl =>
      have hpl : ((if a < 1000 then mv_at (.methodLink (mv_ow y) k (mv_y (mv_z a))) q9 else mv_at (.methodLinkNest (mv_ow y) k (mv_y (mv_z a)) "LineTemplates") q9 && (mv_hh (mv_z a)).isEmpty) && decide (mv_fr (mv_z a) + 1 ≤ mv_fr y) && decide (8 + ((mv_m (mv_z a)).2.2.1 + 11) + mv_lo (mv_z a) ≤ mv_lo y) && mv_sb (mv_z a)) = true := hpl
      simp only [Bool.and_eq_true] at hpl
      obtain ⟨⟨⟨p1, p2⟩, p3⟩, p4⟩ := hpl
      have p2 := of_decide_eq_true p2
      have p3 := of_decide_eq_true p3
      have z3 : mv_z a ≠ 3 := fun hz3 => by rw [hz3] at p4; cases p4
      have z5 : mv_z a ≠ 205 := fun hz5 => by
        have h9 := of_decide_eq_true (mv_all mv_fr9 (mv_y206 hg))
        rw [hz5] at p2
        have : mv_fr 205 = 9 := rfl
        omega
      obtain ⟨k1, k2, k3, k4⟩ := mv_mk_ok hz z3 z5
      rcases k4 with ⟨-, k5, k6⟩ | ⟨k4, -⟩
      case inr => rw [p4] at k4; cases k4
      have hstk : vs ++ q = vs.reverse.reverse ++ q := by rw [List.reverse_reverse]
      have hp : PreS s H (fun a9 U => a9 = vs.reverse.toArray ∧ U.heap = H ∧ s.WarmedH U.vm) vs.reverse := ⟨mv_blind, fun U hU hW => ⟨rfl, hU, hW⟩⟩
      have hlen : ∀ sig, parseMethodDescriptor (mv_y (mv_z a)).desc = some sig → vs.reverse.length = sig.parameters.length := fun sig hsig => by
        rw [hsig] at k6
        have h9 := Option.some.inj k6
        rw [List.length_reverse, hvl]; exact h9.symm
      rcases k3 with ⟨k30, k3⟩ | ⟨k3, -, k31⟩
      · have hM := mv_met IH hst0 hz z3 hrun hc4 hF hP hD hS hw hav (Or.inl ⟨rfl, k30⟩)
        by_cases ha : a < 1000
        · rw [if_pos ha] at p1
          have cw : CallB R s args (mv_ow y) k (mv_y (mv_z a)) (mv_by (mv_z a)) (mv_m (mv_z a)).2.2.1 (mv_rt (mv_z a)) [Cond.code (mv_y (mv_z a)) (mv_by (mv_z a)) (mv_m (mv_z a)).2.2.1 (mv_rt (mv_z a))] { frames := mv_fr (mv_z a), cells := c1.2.1 - c.2.1, slots := c1.2.2 - c.2.2, locals := mv_lo (mv_z a) } (c1.2.1 - c.2.1) (c1.2.2 - c.2.2) vs.reverse.length ∧ (Cond.static (mv_y (mv_z a))).before args s = true :=
            ⟨⟨rfl, rfl, by show mv_fr _ + 1 ≤ _; omega, by show 8 + (_ + 11) + mv_lo _ ≤ _; omega, mv_good hF k3, List.mem_singleton.mpr rfl, hF.1 _ k3 _, hF.1 _ k1 _, k2, hlen, hF.1 _ (mv_G_in (mv_at_in p1) rfl) _⟩, hF.1 _ k5 _⟩
          by_cases h4 : r1.1 = 4
          · exact finX _ h4 (vx_runS S hM cw hp rfl rfl hsz hstk hroom hd hcell)
          · exact fin _ h4 (va_runS S (mv_metR hM (hnoX h4)) cw hp rfl rfl hsz hstk hroom hd hcell)
        · rw [if_neg ha] at p1
          have h4 : r1.1 ≠ 4 := fun h4 => ha (Kx h4).1.1
          exact fin _ h4 (va_runSN (host := "LineTemplates") S (mv_metR hM (hnoX h4)) ⟨⟨⟨rfl, rfl, by show mv_fr _ + 1 ≤ _; omega, by show 8 + (_ + 11) + mv_lo _ ≤ _; omega, mv_good hF k3, List.mem_singleton.mpr rfl⟩, hF.1 _ k3 _, hF.1 _ k1 _, k2, hlen, va_Nw.use rfl (hF.2.1 _ (mv_at_in ((Bool.and_eq_true _ _).mp p1).1) rfl)⟩, hF.1 _ k5 _, trivial⟩ hp rfl rfl hsz hstk hroom hd hcell)
      · have hM := mv_met IH hst0 hz z3 hrun hc4 hF hP hD hS hw hav (Or.inr rfl)
        by_cases ha : a < 1000
        · rw [if_pos ha] at p1
          have h4 : r1.1 ≠ 4 ∨ r1.1 = 4 := (Classical.em _).symm
          rcases h4 with h4 | h4
          · exact fin _ h4 (vx_runSW S (mv_metR hM (hnoX h4)) ⟨⟨rfl, rfl, by show mv_fr _ + 1 ≤ _; omega, by show 8 + (_ + 11) + mv_lo _ ≤ _; omega, mv_good hF k3, List.mem_singleton.mpr rfl⟩, hF.1 _ k3 _, hF.1 _ k1 _, k2, hlen, hF.1 _ (mv_G_in (mv_at_in p1) rfl) _, hF.1 _ k5 _⟩ hp rfl rfl hsz hstk hroom hd hcell)
          · exact finX _ h4 (vx_runSX S hM ⟨⟨rfl, rfl, by show mv_fr _ + 1 ≤ _; omega, by show 8 + (_ + 11) + mv_lo _ ≤ _; omega, mv_good hF k3, List.mem_singleton.mpr rfl⟩, hF.1 _ k3 _, hF.1 _ k1 _, k2, hlen, hF.1 _ (mv_G_in (mv_at_in p1) rfl) _, hF.1 _ k5 _⟩ hp rfl rfl hsz hstk hroom hd hcell)
        · rw [if_neg ha] at p1
          exact absurd (List.isEmpty_iff.mp ((Bool.and_eq_true _ _).mp p1).2) k31
    | [], hpl => cases hpl
    | _ :: _ :: _, hpl => cases hpl
end CL
end
section
theorem mv_covers {q : Nat × Nat × Nat × Nat} {pc : Nat} : covers (⟨q.1, q.2.1, q.2.2.1, q.2.2.2⟩ : ExceptionTableEntry) pc = (decide (q.1 ≤ pc) && decide (pc < q.2.1)) := rfl
/-- **the real machine follows the small one** -/
theorem mv_sim (l : Launch) (hst : l.stackTraces = false) (D : va_G) (bs base L : Nat) (xs : Nat → Int32) (hLs : L < 2147483648) : ∀ N, mv_Sim l D bs base L xs N := by
  intro N
  induction N with
  | zero => intro y pc ls st c h r c' h' hr; cases hr
  | succ N IH =>
    intro y pc ls st c h r c' h' hr p e R s m args below meth cd H locs cells slots mc ms ι lsr str ι0 n0 X hfr hlo rel hι hn hc hs hmc hms
    rw [mv_run] at hr
    split at hr
    · cases hr
    · rename_i i a hg
      have hy := mv_y206 hg
      split at hr
      · split at hr
        · rename_i pc1 ls1 st1 c1 h1 hs1
          have m1 := mv_step_mono hs1
          have m2 := mv_run_mono _ _ _ _ _ _ _ _ _ _ hr
          exact mv_stepW hLs X hg hs1 rel (by omega) (by omega) (fun H1 locs1 ι1 lsr1 str1 rel1 hι1 => IH _ _ _ _ _ _ _ _ _ hr p e R s m args below meth cd H1 locs1 _ _ mc ms ι1 lsr1 str1 ι0 n0 X hfr hlo rel1 (fun j h0 hj => (hι1 j h0 (by omega)).trans (hι j h0 hj)) (by omega) (by omega) (by omega) hmc hms)
        · cases hr
      · rename_i hki
        split at hr
        · rename_i hcnd
          obtain ⟨hc1, hc2, hc3, hc4⟩ := hcnd
          split at hr
          · rename_i r1 c1 h1 hrun
            have m1 := mv_run_mono _ _ _ _ _ _ _ _ _ _ hrun
            have m0 : c1.2.1 ≤ c'.2.1 ∧ c1.2.2 ≤ c'.2.2 := by
              split at hr
              · split at hr
                · split at hr
                  · have m2 := mv_run_mono _ _ _ _ _ _ _ _ _ _ hr
                    omega
                  · split at hr
                    · cases hr; exact ⟨Nat.le_refl _, Nat.le_refl _⟩
                    · cases hr
                · cases hr
              · split at hr
                · have m2 := mv_run_mono _ _ _ _ _ _ _ _ _ _ hr
                  omega
                · have m2 := mv_run_mono _ _ _ _ _ _ _ _ _ _ hr
                  omega
            refine mv_call IH X hg hki hc1 hc2 hc3 hc4 hrun rel hfr hlo (by omega) (by omega) (fun h4 H1 locs1 ι1 str1 rel1 hι1 => ?_) (fun h4 => ?_)
            · rw [if_neg h4] at hr
              by_cases h3 : r1.1 = 3
              · rw [if_pos h3] at hr rel1
                exact IH _ _ _ _ _ _ _ _ _ hr p e R s m args below meth cd H1 locs1 _ _ mc ms ι1 lsr str1 ι0 n0 X hfr hlo rel1 (fun j h0 hj => (hι1 j h0 (by omega)).trans (hι j h0 hj)) (by omega) (by omega) (by omega) hmc hms
              · rw [if_neg h3] at hr rel1
                exact IH _ _ _ _ _ _ _ _ _ hr p e R s m args below meth cd H1 locs1 _ _ mc ms ι1 lsr str1 ι0 n0 X hfr hlo rel1 (fun j h0 hj => (hι1 j h0 (by omega)).trans (hι j h0 hj)) (by omega) (by omega) (by omega) hmc hms
            · rw [if_pos h4] at hr
              split at hr
              · rename_i hcx
                obtain ⟨hx1, hx2, hx3, hx4, hx5⟩ := hcx
                refine ⟨⟨hx1, hx2, hx3⟩, fun H1 locs1 ι1 ws1 ce x rest w1 w2 w3 w4 w5 w6 w7 w8 w9 w10 => ?_⟩
                obtain ⟨hx, hb, hml, hret, hlk, hown, hnm, hxt, hst0, hF⟩ := id X
                have hhd := mv_all mv_hd0 hy
                simp only [Bool.and_eq_true] at hhd
                have hhe := of_decide_eq_true hhd.1.1
                split at hr
                · rename_i hp hhp
                  rw [hhe] at hhp
                  obtain ⟨pre, z, suf, e1, e2, e3, e4, e5, rfl⟩ := mv_hnd_spec _ _ _ _ hhp
                  have hnil : (mv_hh y).isEmpty = false := by rw [e1]; cases pre <;> rfl
                  have how : mv_ow y = "LineTemplatesLaw" := by
                    rcases (Bool.or_eq_true _ _).mp hhd.2 with h9 | h9
                    · exact of_decide_eq_true h9
                    · rw [hnil] at h9; cases h9
                  have hct : ∀ q ∈ mv_hh y, q.2.2.2 = 13 ∨ q.2.2.2 = 15 ∨ q.2.2.2 = 24 := fun q hq => by
                    have h9 := List.all_eq_true.mp hhd.1.2 q hq
                    rcases (Bool.or_eq_true _ _).mp h9 with h9 | h9
                    · rcases (Bool.or_eq_true _ _).mp h9 with h9 | h9
                      · exact Or.inl (of_decide_eq_true h9)
                      · exact Or.inr (Or.inl (of_decide_eq_true h9))
                    · exact Or.inr (Or.inr (of_decide_eq_true h9))
                  have hlink : ∀ q ∈ mv_hh y, (Cond.classLink (mv_ow y) q.2.2.2 (mv_xn (mv_ce q.2.2.2))).before args s = true := fun q hq => by
                    rw [how]
                    rcases hct q hq with h9 | h9 | h9 <;> rw [h9]
                    · exact hF.1 _ mv_cw0.1 _
                    · exact hF.1 _ mv_cw0.2.1 _
                    · exact hF.1 _ mv_cw0.2.2.1 _
                  have hce : ∀ q ∈ mv_hh y, mv_ce q.2.2.2 < 3 := fun q hq => by
                    rcases hct q hq with h9 | h9 | h9 <;> rw [h9] <;> decide
                  have hn0 : ∀ q ∈ mv_hh y, q.2.2.2 ≠ 0 := fun q hq => by
                    rcases hct q hq with h9 | h9 | h9 <;> rw [h9] <;> decide
                  have hz : z ∈ mv_hh y := by rw [e1]; exact List.mem_append_right _ List.mem_cons_self
                  have hrn : r1.2.toNat = mv_ce z.2.2.2 := by omega
                  rw [hrn] at w10
                  have hcast : (Cond.castable (mv_xn (mv_ce z.2.2.2)) (mv_xn (mv_ce z.2.2.2))).before args s = true := by
                    have h8 := hce z hz
                    match hq : mv_ce z.2.2.2, h8 with
                    | 0, _ => exact va_Nw.use rfl (hF.2.1 _ mv_cw0.2.2.2.1 rfl)
                    | 1, _ => exact va_Nw.use rfl (hF.2.1 _ mv_cw0.2.2.2.2.1 rfl)
                    | 2, _ => exact va_Nw.use rfl (hF.2.1 _ mv_cw0.2.2.2.2.2 rfl)
                  refine vx_catch hown (tableOf pre) ⟨z.1, z.2.1, z.2.2.1, z.2.2.2⟩ (tableOf suf) (by rw [hxt, e1]; unfold tableOf; rw [List.map_append, List.map_cons]) (fun w hw9 => ?_) (by rw [mv_covers, Bool.and_eq_true]; exact ⟨decide_eq_true e3, decide_eq_true e4⟩) (hn0 z hz) (hlink z hz) hcast w8 w9 w10 ?_
                  · obtain ⟨q, hq, rfl⟩ := List.mem_map.mp hw9
                    have hqm : q ∈ mv_hh y := by rw [e1]; exact List.mem_append_left _ hq
                    rcases e2 q hq with h9 | h9
                    · left
                      rw [mv_covers, Bool.and_eq_false_iff]
                      by_cases h8 : q.1 ≤ pc
                      · right; exact decide_eq_false (fun h7 => h9 ⟨h8, h7⟩)
                      · left; exact decide_eq_false h8
                    · right
                      exact ⟨hn0 q hqm, _, hlink q hqm, hF.2.2.2.2.2.2.1 _ _ (hce z hz) (hce q hqm) (fun h8 => h9 (by rw [← h8]; exact e5))⟩
                  · exact IH _ _ _ _ _ _ _ _ _ hr p e R s m args below meth cd H1 locs1 _ _ mc ms ι1 lsr [.ref x] ι0 n0 X hfr hlo ⟨ws1, w1, w2, w3, w4, w7, ⟨⟨x, rfl⟩, trivial⟩⟩ (fun j h0 hj => (w5 j h0 (by omega)).trans (hι j h0 hj)) (by omega) (by omega) (by omega) hmc hms
                · split at hr
                  · rename_i hno
                    cases hr
                    have hnil := mv_hh0 hy hno
                    refine vx_out (by rw [hxt, hnil]; intro x9 hx9; cases hx9) hlk w8 w9 w10 (fun t ht hvm => ⟨h4, rfl, ι1, ws1, fun j h0 hj => (w5 j h0 (by omega)).trans (hι j h0 hj), by omega, by rw [ht]; exact w1, w2, mv_w_mv hvm w4, w3.F ht⟩) w3.2.2 (by omega) (by omega)
                  · cases hr
              · cases hr
          · cases hr
        · cases hr
      · rename_i hki
        obtain ⟨l1, h1, h2⟩ := Option.map_eq_some_iff.mp hr
        cases h2
        exact mv_endW X hg h1 rel hι hn (by omega) (by omega)
      · rename_i k1 k2 k3
        split at hr
        · rename_i hcnd
          cases hr
          obtain ⟨k, rfl, ha⟩ := mv_ki3 k1 k2 k3
          obtain ⟨h8, rfl⟩ := hcnd
          have hc : cells + (c.2.1 + 1 - c.2.1) ≤ mc := hc
          have hs : slots + (c.2.2 + 6 - c.2.2) ≤ ms := hs
          exact mv_thrW X hg ha h8 rel hfr hlo hι hn (by omega) (by omega) hmc hms
        · cases hr
end
section
/-! the law's start: the small machine's run of the law gives the walk of the law's body -/
def R_law : String := "LineTemplatesLaw"
def lw_P (b : Addr) (xs : List Int32) (args : Array Value) (s : State) : Prop := args = #[.ref b] ∧ s.IntsAt b xs ∧ xs.length ≤ 2048 ∧ (Jvm.Cond.and given_1 narrow_1).before args s = true
def lw_Q (_ : Array Value) (s : State) (o : Outcome) (t : State) : Prop := o = .returned (some (.int 1)) ∧ Framed s o t [] 601024 7293034
def lw_Z (below : List Frame) (a : Array Value) (s : State) : State → Prop := fun t => ∃ o, t.status = .running ∧ Ended t below o ∧ lw_Q a s o t
/-- what holds at the law's entry: the machine, the code, the tables' words (any of lw_tbl by 'hts w (by decide +kernel)'), the script of L ints xs at the cell b, what the Statement gives of the start (any of its parts by flat_of_before) -/
def lw_At (p : Program) (s : State) (m : MethodId) (meth : Method) (c : Code) (b L : Nat) (xs : Nat → Int32) : Prop :=
  p.tables.exec = Jvm.exec ∧ c.code = code ∧ meth.sig.returnType = ret ∧ c.maxLocals = 7 ∧ s.vm.findClass R_law = some m.cls ∧ (∀ w ∈ lw_tbl, w.before #[Value.ref b] s = true) ∧ va_X b L xs s s.heap ∧ b < s.heap.size ∧ meth.locks = false ∧ (Jvm.Cond.and given_1 narrow_1).before #[Value.ref b] s = true ∧ c.exceptionTable.toList = []

def mv_h0 : mv_H := fun _ => (99, 0, fun _ => 0)
/-- what is owed of the small machine: the law's run answers 1, within the room -/
def mv_Small (L : Nat) (xs : Nat → Int32) : Prop := ∃ (N : Nat) (c' : mv_C) (h' : mv_H), mv_run ((L : Int), fun j => (xs j.toNat).toInt) N q_Law_law 0 (mv_ent [(4, 0)] 7) [] (0, 0, 0) mv_h0 = some ((0, 1), c', h') ∧ c'.2.1 ≤ 601024 ∧ c'.2.2 ≤ 7293034
theorem ms_st0 : Cond.laysStatic Bundle.tN "UNASSIGNED_STACK" Bundle.steD ∈ lw_tbl ∧ Cond.laysStatic Bundle.tN "SUPPRESSED_SENTINEL" Bundle.listD ∈ lw_tbl ∧ Cond.initialized Bundle.tN ∈ lw_tbl ∧ Cond.arrayOver (.object "LineTemplates$Line") ∈ lw_tbl ∧ Cond.arrayOver (.object "LineTemplates$State") ∈ lw_tbl := by decide +kernel
set_option maxRecDepth 100000 in
theorem ms_st1 : Cond.isRef (.static Bundle.tN "UNASSIGNED_STACK" Bundle.steD) ∈ flatC (Jvm.Cond.and given_1 narrow_1) ∧ Cond.isRef (.static Bundle.tN "SUPPRESSED_SENTINEL" Bundle.listD) ∈ flatC (Jvm.Cond.and given_1 narrow_1) := by decide +kernel
set_option maxRecDepth 100000 in
theorem ms_st2 : mv_str.all (fun q => decide (Cond.stringRef "LineTemplates" q.1 q.2 ∈ lw_tbl) && decide (Cond.exactly (.string "LineTemplates" q.1) "java/lang/String" ∈ flatC (Jvm.Cond.and given_1 narrow_1))) = true := by decide +kernel
set_option maxRecDepth 100000 in
theorem ms_st3 : (Cond.not (.castable (mv_xn 0) (mv_xn 1)) ∈ flatC (Jvm.Cond.and given_1 narrow_1) ∧ Cond.not (.castable (mv_xn 0) (mv_xn 2)) ∈ flatC (Jvm.Cond.and given_1 narrow_1) ∧ Cond.not (.castable (mv_xn 1) (mv_xn 0)) ∈ flatC (Jvm.Cond.and given_1 narrow_1)) ∧
    (Cond.not (.castable (mv_xn 1) (mv_xn 2)) ∈ flatC (Jvm.Cond.and given_1 narrow_1) ∧ Cond.not (.castable (mv_xn 2) (mv_xn 0)) ∈ flatC (Jvm.Cond.and given_1 narrow_1) ∧ Cond.not (.castable (mv_xn 2) (mv_xn 1)) ∈ flatC (Jvm.Cond.and given_1 narrow_1)) := by decide +kernel
theorem ms_st4 : mv_by 205 = code ∧ mv_rt 205 = ret ∧ mv_ow 205 = R_law ∧ (mv_m 205).2.2.1 = 7 ∧ mv_hh 205 = [] ∧ (mv_y 205).name = "law" := ⟨rfl, rfl, rfl, rfl, rfl, rfl⟩
theorem mv_nwT {w : Cond} (h : mv_nw w = true) : w.onTables = true := by
  cases w <;> simp only [mv_nw] at h <;> first | rfl | cases h
set_option maxHeartbeats 4000000 in
/-- THE LAW, from its entry, if the small machine's run is as owed -/
theorem whole_start_open {p : Program} {e : Env} {s : State} {m : MethodId} {below : List Frame} {meth : Method} {c : Code} (l : Launch) (hflags : l.flags = flags0) {b L : Nat} {xs : Nat → Int32} (hL : L ≤ 2048) (C0 : lw_At p s m meth c b L xs) (hrun : mv_Small L xs) : W p l e room_1 s m #[Value.ref b] below meth c s.heap [] 0 0 (lw_Z below #[Value.ref b] s) (entryFrame m ([Value.ref b] : List Value).toArray 7) := by
  obtain ⟨hx, hb, hr, hml, hown, hts, hX, hbl, hlocks, hgv, htab⟩ := id C0
  obtain ⟨N, c', h', hrun, hc1, hc2⟩ := hrun
  have hfl := flat_of_before _ hgv
  have hG : ∀ w ∈ mv_G, ∀ a : Array Value, w.before a s = true := fun w hw a => word_at (State.WarmedH.refl s) (good_of_word (List.mem_filter.mp hw).2) (hts w (List.mem_filter.mp hw).1)
  have hGs : ∀ w ∈ mv_G, w.before #[Value.ref b] s = true := fun w hw => hG w hw _
  have kn : ∀ ci, ci < 5 → ∃ (cC : ClassId) (iS : Nat → Nat), u_Kn s (mv_cn ci) (mv_cT ci) (mv_fn ci) cC iS := fun ci h5 => u_known (n := mv_fn ci) hGs (mv_uw ci h5) (hGs _ (mv_iq ci h5).1)
  obtain ⟨D, hK⟩ : ∃ D : va_G, va_K D mv_cl [] s := by
    refine ⟨(fun k => if h : k < 5 then (kn k h).choose else 0, fun k => if h : k < 5 then (kn k h).choose_spec.choose else fun _ => 0), fun k q hq => ?_, fun k q h => by simp at h⟩
    by_cases h5 : k < 5
    · rw [mv_cl_at k h5] at hq
      cases hq
      show u_Kn s _ _ _ (if h : k < 5 then (kn k h).choose else 0) (if h : k < 5 then (kn k h).choose_spec.choose else fun _ => 0)
      rw [dif_pos h5, dif_pos h5]
      exact (kn k h5).choose_spec.choose_spec
    · have : mv_cl[k]? = none := List.getElem?_eq_none (by show 5 ≤ k; omega)
      rw [this] at hq; cases hq
  have hA : ∀ a : Nat, a < s.heap.size → ¬ mv_A s.heap.size a := fun a ha => Nat.not_le.mpr ha
  have hF : mv_Fx D b s.heap.size L xs s := by
    refine ⟨hG, fun w hw hn => va_Nw.of (mv_nwT hn) (hts w hw), hK, ⟨Nat.le_refl _, hbl, hX⟩, ⟨vx_Zqof (hts _ ms_st0.1) (hts _ ms_st0.2.2.1) (hfl _ ms_st1.1) hA, vx_Zqof (hts _ ms_st0.2.1) (hts _ ms_st0.2.2.1) (hfl _ ms_st1.2) hA⟩, fun q hq => ?_, fun i j hi hj hij => ?_, va_AO.of (hts _ ms_st0.2.2.2.1), va_AO.of (hts _ ms_st0.2.2.2.2)⟩
    · have h9 := List.all_eq_true.mp ms_st2 q hq
      simp only [Bool.and_eq_true] at h9
      obtain ⟨a, -, -, -, ha, -⟩ := Cond.exactly_spec (hfl _ (of_decide_eq_true h9.2))
      exact ⟨a, vk_R.of (hts _ (of_decide_eq_true h9.1)) ha⟩
    · match i, j, hi, hj, hij with
      | 0, 1, _, _, _ => exact va_Nc.of (hfl _ ms_st3.1.1)
      | 0, 2, _, _, _ => exact va_Nc.of (hfl _ ms_st3.1.2.1)
      | 1, 0, _, _, _ => exact va_Nc.of (hfl _ ms_st3.1.2.2)
      | 1, 2, _, _, _ => exact va_Nc.of (hfl _ ms_st3.2.1)
      | 2, 0, _, _, _ => exact va_Nc.of (hfl _ ms_st3.2.2.1)
      | 2, 1, _, _, _ => exact va_Nc.of (hfl _ ms_st3.2.2.2)
      | 0, 0, _, _, hij => exact absurd rfl hij
      | 1, 1, _, _, hij => exact absurd rfl hij
      | 2, 2, _, _, hij => exact absurd rfl hij
      | i + 3, _, hi, _, _ => omega
      | 0, j + 3, _, hj, _ => omega
      | 1, j + 3, _, hj, _ => omega
      | 2, j + 3, _, hj, _ => omega
  have hst : l.stackTraces = false := by
    unfold Launch.stackTraces
    rw [hflags]; decide
  have X : mv_Cx p l m #[Value.ref b] meth c 205 D b s.heap.size L xs s := ⟨hx, hb.trans ms_st4.1.symm, hml.trans ms_st4.2.2.2.1.symm, hr.trans ms_st4.2.1.symm, hlocks, by rw [ms_st4.2.2.1]; exact hown, fun h9 => by rw [ms_st4.2.2.2.2.2] at h9; exact absurd h9 (by decide), by rw [htab, ms_st4.2.2.2.2.1]; rfl, hst, hF⟩
  have hrs : mv_rs (fun _ => 0) 0 b [(4, 0)] [Value.ref b] := ⟨rfl, trivial⟩
  have rel : mv_Rl D s b s.heap.size (fun _ => 0) 0 mv_h0 s.heap [] (mv_m 205).2.2.1 ((lg_sl [Value.ref b] ++ List.replicate (7 - (lg_sl [Value.ref b]).length) Slot.unset).toArray) [] (mv_ent [(4, 0)] 7) [] :=
    ⟨[], fun k q h => by simp at h, ⟨fun i j p q h => by simp at h, fun k q h => by simp at h⟩, va_S.rf, ⟨rfl, fun i hi => by omega⟩, mv_rl_ent hrs (by decide), trivial⟩
  rw [lg_entry_eq]
  have main := mv_sim l hst D b s.heap.size L xs (by omega) N 205 0 _ [] (0, 0, 0) mv_h0 (0, 1) c' h' hrun p e room_1 s m #[Value.ref b] below meth c s.heap [] 0 0 601024 7293034 (fun _ => 0) _ [] (fun _ => 0) 0 X (by decide) (by decide) rel (fun j h0 hj => by omega) (Nat.le_refl _) (by omega) (by omega) (Nat.le_refl _) (Nat.le_refl _)
  intro T hT X0
  obtain ⟨t, a1, o, b1, b2, b3⟩ := main T hT X0
  refine ⟨t, a1, o, b1, b2, ?_⟩
  rcases b3 with ⟨⟨ι', ws', -, -, -, -, -, -, g7⟩, Lc, ⟨⟨v, hv⟩, f2, f3⟩, hL⟩ | ⟨q, -, E, ce, Lc, hX9, -⟩
  · rcases g7 with ⟨g8, -⟩ | ⟨-, x, rfl, g9⟩
    · cases g8
    · have g9 : x = .int (Int32.ofInt 1) := g9
      subst g9
      exact ⟨rfl, ⟨_, rfl⟩, f2, State.sameButNew.drop_fresh (L := []) (J := Lc) f3 (fun q hq => hL q hq)⟩
  · have := hX9.1
    cases this
end
section
/-! walking on the small machine: 'mv_Ev': it comes to an end where Q holds -/
def mv_Ev (sc : Int × (Int → Int)) (y pc : Nat) (ls st : List mv_V) (c : mv_C) (h : mv_H) (Q : mv_R → mv_C → mv_H → Prop) : Prop := ∃ (N : Nat) (r : mv_R) (c' : mv_C) (h' : mv_H), mv_run sc N y pc ls st c h = some (r, c', h') ∧ Q r c' h'
/-- a method's contract: called with these values in this heap, Q holds at its end -/
def mv_Cl (sc : Int × (Int → Int)) (y : Nat) (vs : List mv_V) (c : mv_C) (h : mv_H) (Q : mv_R → mv_C → mv_H → Prop) : Prop := mv_Ev sc y 0 (mv_ent vs (mv_m y).2.2.1) [] c h Q
theorem mv_fuel1 {sc : Int × (Int → Int)} : ∀ (N y pc : Nat) (ls st : List mv_V) (c : mv_C) (h : mv_H) (q : mv_R × mv_C × mv_H), mv_run sc N y pc ls st c h = some q → mv_run sc (N + 1) y pc ls st c h = some q := by
  intro N
  induction N with
  | zero => intro y pc ls st c h q hr; cases hr
  | succ N ih =>
    intro y pc ls st c h q hr
    rw [mv_run] at hr
    rw [mv_run]
    split at hr
    · cases hr
    · split at hr
      · split at hr
        · exact ih _ _ _ _ _ _ _ hr
        · cases hr
      · split at hr
        · rename_i hcnd
          rw [if_pos hcnd]
          split at hr
          · rename_i hs9
            rw [ih _ _ _ _ _ _ _ hs9]
            dsimp only
            split at hr
            · rename_i h4
              rw [if_pos h4]
              split at hr
              · rename_i h5
                rw [if_pos h5]
                split at hr
                · exact ih _ _ _ _ _ _ _ hr
                · exact hr
              · cases hr
            · rename_i h4
              rw [if_neg h4]
              split at hr
              · rename_i h3
                rw [if_pos h3]
                exact ih _ _ _ _ _ _ _ hr
              · rename_i h3
                rw [if_neg h3]
                exact ih _ _ _ _ _ _ _ hr
          · cases hr
        · cases hr
      · exact hr
      · exact hr
theorem mv_fuel {sc : Int × (Int → Int)} {N M y pc : Nat} {ls st : List mv_V} {c : mv_C} {h : mv_H} {q : mv_R × mv_C × mv_H} (hr : mv_run sc N y pc ls st c h = some q) (hM : N ≤ M) : mv_run sc M y pc ls st c h = some q := by
  obtain ⟨k, rfl⟩ := Nat.exists_eq_add_of_le hM
  induction k with
  | zero => exact hr
  | succ k ih => exact mv_fuel1 _ _ _ _ _ _ _ _ (ih (Nat.le_add_right _ _))
section EV
variable {sc : Int × (Int → Int)} {y pc pc' : Nat} {K : mv_K} {i : Instr} {a : Int} {ls st ls' st' r : List mv_V} {c c' : mv_C} {h h' : mv_H} {Q : mv_R → mv_C → mv_H → Prop}
theorem mv_Ev.mono {Q' : mv_R → mv_C → mv_H → Prop} (hE : mv_Ev sc y pc ls st c h Q) (hq : ∀ r c' h', Q r c' h' → Q' r c' h') : mv_Ev sc y pc ls st c h Q' := by
  obtain ⟨N, r, c', h', h1, h2⟩ := hE
  exact ⟨N, r, c', h', h1, hq _ _ _ h2⟩
theorem e_step (hK : (mv_m y).1 = K) (hg : mv_get K pc = some (i, a)) (hk : mv_ki i a = 0) (hs : mv_step sc pc i a ls st c h = some (pc', ls', st', c', h')) (k : mv_Ev sc y pc' ls' st' c' h' Q) : mv_Ev sc y pc ls st c h Q := by
  obtain ⟨N, r, c2, h2, h3, h4⟩ := k
  subst hK
  refine ⟨N + 1, r, c2, h2, ?_, h4⟩
  rw [mv_run, hg]
  try dsimp only
  rw [hk]
  try dsimp only
  rw [hs]
  exact h3
theorem e_ret {v : mv_R} (hK : (mv_m y).1 = K) (hg : mv_get K pc = some (i, a)) (hk : mv_ki i a = 2) (hs : mv_ret (mv_m y).2.2.2.1 i st = some v) (k : Q v c h) : mv_Ev sc y pc ls st c h Q := by
  subst hK
  refine ⟨1, v, c, h, ?_, k⟩
  rw [mv_run, hg]
  try dsimp only
  rw [hk]
  try dsimp only
  rw [hs]
  rfl
theorem e_thr {E : Int} (hK : (mv_m y).1 = K) (hg : mv_get K pc = some (i, a)) (hk : mv_ki i a = 3) (hh : (mv_m y).2.2.2.2.2 = []) (hE : -1 - a = E) (k : Q (4, E) (c.1, c.2.1 + 1, c.2.2 + 6) h) : mv_Ev sc y pc ls [] c h Q := by
  subst hK
  subst hE
  refine ⟨1, (4, -1 - a), _, h, ?_, k⟩
  rw [mv_run, hg]
  try dsimp only
  rw [hk]
  try dsimp only
  exact if_pos ⟨hh, rfl⟩
/-- a call: its values off the stack, its contract, what follows -/
theorem e_call {z : Nat} {vs : List mv_V} {Q1 : mv_R → mv_C → mv_H → Prop} (hK : (mv_m y).1 = K) (hg : mv_get K pc = some (i, a)) (hk : mv_ki i a = 1) (hz : mv_z a = z) (hst : st = vs.reverse ++ r) (hn : (mv_m z).2.1 = vs.length) (hr : r.length ≤ 4) (hrc : mv_rc i z vs h = true) (hml : (mv_ents vs).length ≤ (mv_m z).2.2.1)
    (hC : mv_Cl sc z vs c h Q1) (hQ : ∀ (v : mv_R) (c1 : mv_C) (h1 : mv_H), Q1 v c1 h1 → v.1 ≠ 4 ∧ mv_Ev sc y (pc + 3) ls (if v.1 = 3 then r else v :: r) c1 h1 Q) : mv_Ev sc y pc ls st c h Q := by
  subst hK
  subst hz
  obtain ⟨N, v, c1, h1, hr1, hq1⟩ := hC
  obtain ⟨h4, M, v2, c2, h2, hr2, hq2⟩ := hQ v c1 h1 hq1
  refine ⟨max N M + 1, v2, c2, h2, ?_, hq2⟩
  have htk : st.take (mv_m (mv_z a)).2.1 = vs.reverse := by rw [hst, hn, ← List.length_reverse, List.take_left]
  have hdr : st.drop (mv_m (mv_z a)).2.1 = r := by rw [hst, hn, ← List.length_reverse, List.drop_left]
  have hln : st.length = vs.length + r.length := by rw [hst, List.length_append, List.length_reverse]
  rw [mv_run, hg]
  try dsimp only
  rw [hk]
  try dsimp only
  rw [htk, hdr, List.reverse_reverse, if_pos ⟨by omega, by omega, hrc, hml⟩, mv_fuel hr1 (Nat.le_max_left N M)]
  try dsimp only
  rw [if_neg h4]
  by_cases h3 : v.1 = 3
  · rw [if_pos h3] at hr2 ⊢
    exact mv_fuel hr2 (Nat.le_max_right N M)
  · rw [if_neg h3] at hr2 ⊢
    exact mv_fuel hr2 (Nat.le_max_right N M)
/-- a call that throws, not caught here -/
theorem e_callX {z : Nat} {vs : List mv_V} {Q1 : mv_R → mv_C → mv_H → Prop} (hK : (mv_m y).1 = K) (hg : mv_get K pc = some (i, a)) (hk : mv_ki i a = 1) (hz : mv_z a = z) (hst : st = vs.reverse ++ r) (hn : (mv_m z).2.1 = vs.length) (hr : r.length ≤ 4) (hrc : mv_rc i z vs h = true) (hml : (mv_ents vs).length ≤ (mv_m z).2.2.1)
    (ha : a < 1000) (hs : mv_nsp i = true) (hhz : (mv_m z).2.2.2.2.2 = []) (hhy : (mv_m y).2.2.2.2.2 = [])
    (hC : mv_Cl sc z vs c h Q1) (hQ : ∀ (v : mv_R) (c1 : mv_C) (h1 : mv_H), Q1 v c1 h1 → (v.1 ≠ 4 ∧ mv_Ev sc y (pc + 3) ls (if v.1 = 3 then r else v :: r) c1 h1 Q) ∨ (v.1 = 4 ∧ 0 ≤ v.2 ∧ v.2 < 3 ∧ Q v c1 h1)) : mv_Ev sc y pc ls st c h Q := by
  have hC0 := hC
  obtain ⟨N, v, c1, h1, hr1, hq1⟩ := hC
  rcases hQ v c1 h1 hq1 with ⟨h4, M, v2, c2, h2, hr2, hq2⟩ | ⟨h4, h5, h6, h7⟩
  · exact e_call (Q1 := fun v' c' h' => v' = v ∧ c' = c1 ∧ h' = h1) hK hg hk hz hst hn hr hrc hml ⟨N, v, c1, h1, hr1, rfl, rfl, rfl⟩ (fun v' c' h' hq => by obtain ⟨rfl, rfl, rfl⟩ := hq; exact ⟨h4, M, v2, c2, h2, hr2, hq2⟩)
  · subst hK
    subst hz
    refine ⟨N + 1, v, c1, h1, ?_, h7⟩
    have htk : st.take (mv_m (mv_z a)).2.1 = vs.reverse := by rw [hst, hn, ← List.length_reverse, List.take_left]
    have hln : st.length = vs.length + r.length := by rw [hst, List.length_append, List.length_reverse]
    rw [mv_run, hg]
    try dsimp only
    rw [hk]
    try dsimp only
    rw [htk, List.reverse_reverse, if_pos ⟨by omega, by omega, hrc, hml⟩, hr1]
    try dsimp only
    rw [if_pos h4, if_pos ⟨ha, hs, hhz, h5, h6⟩, hhy]
    rfl
/-- a call with handlers behind it -/
theorem e_callH {z : Nat} {vs : List mv_V} {Q1 : mv_R → mv_C → mv_H → Prop} (hK : (mv_m y).1 = K) (hg : mv_get K pc = some (i, a)) (hk : mv_ki i a = 1) (hz : mv_z a = z) (hst : st = vs.reverse ++ r) (hn : (mv_m z).2.1 = vs.length) (hr : r.length ≤ 4) (hrc : mv_rc i z vs h = true) (hml : (mv_ents vs).length ≤ (mv_m z).2.2.1)
    (ha : a < 1000) (hs : mv_nsp i = true) (hhz : (mv_m z).2.2.2.2.2 = [])
    (hC : mv_Cl sc z vs c h Q1) (hQ : ∀ (v : mv_R) (c1 : mv_C) (h1 : mv_H), Q1 v c1 h1 → (v.1 ≠ 4 ∧ mv_Ev sc y (pc + 3) ls (if v.1 = 3 then r else v :: r) c1 h1 Q) ∨ (v.1 = 4 ∧ 0 ≤ v.2 ∧ v.2 < 3 ∧ ∃ hp, mv_hnd (mv_m y).2.2.2.2.2 pc v.2 = some hp ∧ mv_Ev sc y hp ls [(3, 0)] c1 h1 Q)) : mv_Ev sc y pc ls st c h Q := by
  obtain ⟨N, v, c1, h1, hr1, hq1⟩ := hC
  rcases hQ v c1 h1 hq1 with ⟨h4, M, v2, c2, h2, hr2, hq2⟩ | ⟨h4, h5, h6, hp, h7, M, v2, c2, h2, hr2, hq2⟩
  · exact e_call (Q1 := fun v' c' h' => v' = v ∧ c' = c1 ∧ h' = h1) hK hg hk hz hst hn hr hrc hml ⟨N, v, c1, h1, hr1, rfl, rfl, rfl⟩ (fun v' c' h' hq => by obtain ⟨rfl, rfl, rfl⟩ := hq; exact ⟨h4, M, v2, c2, h2, hr2, hq2⟩)
  · subst hK
    subst hz
    refine ⟨max N M + 1, v2, c2, h2, ?_, hq2⟩
    have htk : st.take (mv_m (mv_z a)).2.1 = vs.reverse := by rw [hst, hn, ← List.length_reverse, List.take_left]
    have hln : st.length = vs.length + r.length := by rw [hst, List.length_append, List.length_reverse]
    rw [mv_run, hg]
    try dsimp only
    rw [hk]
    try dsimp only
    rw [htk, List.reverse_reverse, if_pos ⟨by omega, by omega, hrc, hml⟩, mv_fuel hr1 (Nat.le_max_left N M)]
    try dsimp only
    rw [if_pos h4, if_pos ⟨ha, hs, hhz, h5, h6⟩, h7]
    exact mv_fuel hr2 (Nat.le_max_right N M)
-- instructions with conditions
theorem e_getI {x : Nat} {ob k : Int} {ci : Nat} (hK : (mv_m y).1 = K) (hg : mv_get K pc = some (.getfield x, a)) (h1 : (h ob).1 = ci) (h2 : (a / 100).toNat = ci) (h3 : a % 100 = k) (h4 : k.toNat < mv_fn ci) (h5 : mv_ft ci k.toNat = 0) (hp : pc + 3 = pc') (k0 : mv_Ev sc y pc' ls ((0, (h ob).2.2 k) :: r) c h Q) : mv_Ev sc y pc ls ((2, ob) :: r) c h Q := by
  subst hp; subst h3; subst h2
  exact e_step hK hg rfl (by simp only [mv_step]; rw [if_pos ⟨h1, h4⟩, if_pos h5]) k0
theorem e_getR {x : Nat} {ob k : Int} {ci : Nat} (hK : (mv_m y).1 = K) (hg : mv_get K pc = some (.getfield x, a)) (h1 : (h ob).1 = ci) (h2 : (a / 100).toNat = ci) (h3 : a % 100 = k) (h4 : k.toNat < mv_fn ci) (h5 : ¬ mv_ft ci k.toNat = 0) (h6 : 0 ≤ (h ob).2.2 k) (hp : pc + 3 = pc') (k0 : mv_Ev sc y pc' ls ((2, (h ob).2.2 k) :: r) c h Q) : mv_Ev sc y pc ls ((2, ob) :: r) c h Q := by
  subst hp; subst h3; subst h2
  exact e_step hK hg rfl (by simp only [mv_step]; rw [if_pos ⟨h1, h4⟩, if_neg h5, if_pos h6]) k0
theorem e_put {x t : Nat} {ob k v : Int} {ci : Nat} (hK : (mv_m y).1 = K) (hg : mv_get K pc = some (.putfield x, a)) (h1 : (h ob).1 = ci) (h2 : (a / 100).toNat = ci) (h3 : a % 100 = k) (h4 : k.toNat < mv_fn ci) (h5 : t = mv_ft ci k.toNat) (hp : pc + 3 = pc') (k0 : mv_Ev sc y pc' ls r c (mv_uo h ob ((h ob).1, (h ob).2.1, mv_up (h ob).2.2 k v)) Q) : mv_Ev sc y pc ls ((t, v) :: (2, ob) :: r) c h Q := by
  subst hp; subst h3; subst h2
  exact e_step hK hg rfl (by simp only [mv_step]; rw [if_pos ⟨h1, h4, h5⟩]) k0
theorem e_alen {ob : Int} (hK : (mv_m y).1 = K) (hg : mv_get K pc = some (.arraylength, a)) (h1 : 10 ≤ (h ob).1) (hp : pc + 1 = pc') (k0 : mv_Ev sc y pc' ls ((0, (h ob).2.1) :: r) c h Q) : mv_Ev sc y pc ls ((2, ob) :: r) c h Q := by
  subst hp
  exact e_step hK hg rfl (by simp only [mv_step]; rw [if_pos h1]) k0
theorem e_iald {ob j : Int} (hK : (mv_m y).1 = K) (hg : mv_get K pc = some (.iaload, a)) (h1 : (h ob).1 = 10) (h2 : 0 ≤ j) (h3 : j < (h ob).2.1) (hp : pc + 1 = pc') (k0 : mv_Ev sc y pc' ls ((0, (h ob).2.2 j) :: r) c h Q) : mv_Ev sc y pc ls ((0, j) :: (2, ob) :: r) c h Q := by
  subst hp
  exact e_step hK hg rfl (by simp only [mv_step]; rw [if_pos ⟨h1, h2, h3⟩]) k0
theorem e_cald {ob j : Int} (hK : (mv_m y).1 = K) (hg : mv_get K pc = some (.caload, a)) (h1 : (h ob).1 = 11) (h2 : 0 ≤ j) (h3 : j < (h ob).2.1) (hp : pc + 1 = pc') (k0 : mv_Ev sc y pc' ls ((0, (h ob).2.2 j) :: r) c h Q) : mv_Ev sc y pc ls ((0, j) :: (2, ob) :: r) c h Q := by
  subst hp
  exact e_step hK hg rfl (by simp only [mv_step]; rw [if_pos ⟨h1, h2, h3⟩]) k0
theorem e_bald {ob j : Int} (hK : (mv_m y).1 = K) (hg : mv_get K pc = some (.baload, a)) (h1 : (h ob).1 = 12) (h2 : 0 ≤ j) (h3 : j < (h ob).2.1) (hp : pc + 1 = pc') (k0 : mv_Ev sc y pc' ls ((0, (h ob).2.2 j) :: r) c h Q) : mv_Ev sc y pc ls ((0, j) :: (2, ob) :: r) c h Q := by
  subst hp
  exact e_step hK hg rfl (by simp only [mv_step]; rw [if_pos ⟨h1, h2, h3⟩]) k0
theorem e_lald {ob j : Int} (hK : (mv_m y).1 = K) (hg : mv_get K pc = some (.laload, a)) (h1 : (h ob).1 = 13) (h2 : 0 ≤ j) (h3 : j < (h ob).2.1) (hp : pc + 1 = pc') (k0 : mv_Ev sc y pc' ls ((1, (h ob).2.2 j) :: r) c h Q) : mv_Ev sc y pc ls ((0, j) :: (2, ob) :: r) c h Q := by
  subst hp
  exact e_step hK hg rfl (by simp only [mv_step]; rw [if_pos ⟨h1, h2, h3⟩]) k0
theorem e_aald {ob j : Int} (hK : (mv_m y).1 = K) (hg : mv_get K pc = some (.aaload, a)) (h1 : (h ob).1 = 14 ∨ (h ob).1 = 15) (h2 : 0 ≤ j) (h3 : j < (h ob).2.1) (h4 : 0 ≤ (h ob).2.2 j) (hp : pc + 1 = pc') (k0 : mv_Ev sc y pc' ls ((2, (h ob).2.2 j) :: r) c h Q) : mv_Ev sc y pc ls ((0, j) :: (2, ob) :: r) c h Q := by
  subst hp
  exact e_step hK hg rfl (by simp only [mv_step]; rw [if_pos ⟨h1, h2, h3, h4⟩]) k0
theorem e_iast {ob j x : Int} (hK : (mv_m y).1 = K) (hg : mv_get K pc = some (.iastore, a)) (h1 : (h ob).1 = 10) (h2 : 0 ≤ j) (h3 : j < (h ob).2.1) (hp : pc + 1 = pc') (k0 : mv_Ev sc y pc' ls r c (mv_uo h ob ((h ob).1, (h ob).2.1, mv_up (h ob).2.2 j x)) Q) : mv_Ev sc y pc ls ((0, x) :: (0, j) :: (2, ob) :: r) c h Q := by
  subst hp
  exact e_step hK hg rfl (by simp only [mv_step]; rw [if_pos ⟨h1, h2, h3⟩]) k0
theorem e_cast {ob j x : Int} (hK : (mv_m y).1 = K) (hg : mv_get K pc = some (.castore, a)) (h1 : (h ob).1 = 11) (h2 : 0 ≤ j) (h3 : j < (h ob).2.1) (h4 : 0 ≤ x) (h5 : x < 65536) (hp : pc + 1 = pc') (k0 : mv_Ev sc y pc' ls r c (mv_uo h ob ((h ob).1, (h ob).2.1, mv_up (h ob).2.2 j x)) Q) : mv_Ev sc y pc ls ((0, x) :: (0, j) :: (2, ob) :: r) c h Q := by
  subst hp
  exact e_step hK hg rfl (by simp only [mv_step]; rw [if_pos ⟨h1, h2, h3, h4, h5⟩]) k0
theorem e_bast {ob j x : Int} (hK : (mv_m y).1 = K) (hg : mv_get K pc = some (.bastore, a)) (h1 : (h ob).1 = 12) (h2 : 0 ≤ j) (h3 : j < (h ob).2.1) (h4 : x = 0 ∨ x = 1) (hp : pc + 1 = pc') (k0 : mv_Ev sc y pc' ls r c (mv_uo h ob ((h ob).1, (h ob).2.1, mv_up (h ob).2.2 j x)) Q) : mv_Ev sc y pc ls ((0, x) :: (0, j) :: (2, ob) :: r) c h Q := by
  subst hp
  exact e_step hK hg rfl (by simp only [mv_step]; rw [if_pos ⟨h1, h2, h3, h4⟩]) k0
theorem e_last {ob j x : Int} (hK : (mv_m y).1 = K) (hg : mv_get K pc = some (.lastore, a)) (h1 : (h ob).1 = 13) (h2 : 0 ≤ j) (h3 : j < (h ob).2.1) (hp : pc + 1 = pc') (k0 : mv_Ev sc y pc' ls r c (mv_uo h ob ((h ob).1, (h ob).2.1, mv_up (h ob).2.2 j x)) Q) : mv_Ev sc y pc ls ((1, x) :: (0, j) :: (2, ob) :: r) c h Q := by
  subst hp
  exact e_step hK hg rfl (by simp only [mv_step]; rw [if_pos ⟨h1, h2, h3⟩]) k0
theorem e_aast {ob j x : Int} (hK : (mv_m y).1 = K) (hg : mv_get K pc = some (.aastore, a)) (h1 : ((h ob).1 = 14 ∧ (h x).1 = 1) ∨ ((h ob).1 = 15 ∧ (h x).1 = 2)) (h2 : 0 ≤ j) (h3 : j < (h ob).2.1) (hp : pc + 1 = pc') (k0 : mv_Ev sc y pc' ls r c (mv_uo h ob ((h ob).1, (h ob).2.1, mv_up (h ob).2.2 j x)) Q) : mv_Ev sc y pc ls ((2, x) :: (0, j) :: (2, ob) :: r) c h Q := by
  subst hp
  exact e_step hK hg rfl (by simp only [mv_step]; rw [if_pos ⟨h1, h2, h3⟩]) k0
theorem e_idiv {x z : Int} (hK : (mv_m y).1 = K) (hg : mv_get K pc = some (.idiv, a)) (h1 : mv_i x) (h2 : 0 < z) (h3 : mv_i z) (hp : pc + 1 = pc') (k0 : mv_Ev sc y pc' ls ((0, x.tdiv z) :: r) c h Q) : mv_Ev sc y pc ls ((0, z) :: (0, x) :: r) c h Q := by
  subst hp
  exact e_step hK hg rfl (by simp only [mv_step, mv_b2]; rw [if_pos ⟨h1, h2, h3⟩]) k0
theorem e_irem {x z : Int} (hK : (mv_m y).1 = K) (hg : mv_get K pc = some (.irem, a)) (h1 : mv_i x) (h2 : 0 < z) (h3 : mv_i z) (hp : pc + 1 = pc') (k0 : mv_Ev sc y pc' ls ((0, x.tmod z) :: r) c h Q) : mv_Ev sc y pc ls ((0, z) :: (0, x) :: r) c h Q := by
  subst hp
  exact e_step hK hg rfl (by simp only [mv_step, mv_b2]; rw [if_pos ⟨h1, h2, h3⟩]) k0
theorem e_ldiv {x z : Int} (hK : (mv_m y).1 = K) (hg : mv_get K pc = some (.ldiv, a)) (h1 : mv_l x) (h2 : 0 < z) (h3 : mv_l z) (hp : pc + 1 = pc') (k0 : mv_Ev sc y pc' ls ((1, x.tdiv z) :: r) c h Q) : mv_Ev sc y pc ls ((1, z) :: (1, x) :: r) c h Q := by
  subst hp
  exact e_step hK hg rfl (by simp only [mv_step, mv_j2]; rw [if_pos ⟨h1, h2, h3⟩]) k0
theorem e_lrem {x z : Int} (hK : (mv_m y).1 = K) (hg : mv_get K pc = some (.lrem, a)) (h1 : mv_l x) (h2 : 0 < z) (h3 : mv_l z) (hp : pc + 1 = pc') (k0 : mv_Ev sc y pc' ls ((1, x.tmod z) :: r) c h Q) : mv_Ev sc y pc ls ((1, z) :: (1, x) :: r) c h Q := by
  subst hp
  exact e_step hK hg rfl (by simp only [mv_step, mv_j2]; rw [if_pos ⟨h1, h2, h3⟩]) k0
theorem e_i2l {x : Int} (hK : (mv_m y).1 = K) (hg : mv_get K pc = some (.i2l, a)) (h1 : mv_i x) (hp : pc + 1 = pc') (k0 : mv_Ev sc y pc' ls ((1, x) :: r) c h Q) : mv_Ev sc y pc ls ((0, x) :: r) c h Q := by
  subst hp
  exact e_step hK hg rfl (by simp only [mv_step]; rw [if_pos h1]) k0
theorem e_i2c {x : Int} (hK : (mv_m y).1 = K) (hg : mv_get K pc = some (.i2c, a)) (h1 : 0 ≤ x) (h2 : x < 65536) (hp : pc + 1 = pc') (k0 : mv_Ev sc y pc' ls ((0, x) :: r) c h Q) : mv_Ev sc y pc ls ((0, x) :: r) c h Q := by
  subst hp
  exact e_step hK hg rfl (by simp only [mv_step]; rw [if_pos ⟨h1, h2⟩]) k0
theorem e_lcmp {x z : Int} (hK : (mv_m y).1 = K) (hg : mv_get K pc = some (.lcmp, a)) (h1 : mv_l x) (h2 : mv_l z) (hp : pc + 1 = pc') (k0 : mv_Ev sc y pc' ls ((0, mv_cL x z) :: r) c h Q) : mv_Ev sc y pc ls ((1, z) :: (1, x) :: r) c h Q := by
  subst hp
  exact e_step hK hg rfl (by simp only [mv_step, mv_j2]; rw [if_pos ⟨h1, h2⟩]) k0
theorem e_iand {x z : Int} (hK : (mv_m y).1 = K) (hg : mv_get K pc = some (.iand, a)) (h1 : z = 1 ∨ z = 31) (hp : pc + 1 = pc') (k0 : mv_Ev sc y pc' ls ((0, x % (z + 1)) :: r) c h Q) : mv_Ev sc y pc ls ((0, z) :: (0, x) :: r) c h Q := by
  subst hp
  exact e_step hK hg rfl (by simp only [mv_step, mv_b2]; rw [if_pos h1]) k0
theorem e_ishl {x z : Int} (hK : (mv_m y).1 = K) (hg : mv_get K pc = some (.ishl, a)) (h1 : 0 ≤ z) (h2 : z < 32) (hp : pc + 1 = pc') (k0 : mv_Ev sc y pc' ls ((0, x * 2 ^ z.toNat) :: r) c h Q) : mv_Ev sc y pc ls ((0, z) :: (0, x) :: r) c h Q := by
  subst hp
  exact e_step hK hg rfl (by simp only [mv_step, mv_b2]; rw [if_pos ⟨h1, h2⟩]) k0
theorem e_ishr {x z : Int} (hK : (mv_m y).1 = K) (hg : mv_get K pc = some (.ishr, a)) (h0 : mv_i x) (h1 : 0 ≤ z) (h2 : z < 32) (hp : pc + 1 = pc') (k0 : mv_Ev sc y pc' ls ((0, x / 2 ^ z.toNat) :: r) c h Q) : mv_Ev sc y pc ls ((0, z) :: (0, x) :: r) c h Q := by
  subst hp
  exact e_step hK hg rfl (by simp only [mv_step, mv_b2]; rw [if_pos ⟨h0, h1, h2⟩]) k0
theorem e_ior {x z : Int} (hK : (mv_m y).1 = K) (hg : mv_get K pc = some (.ior, a)) (h0 : 0 ≤ x) (h1 : 0 ≤ z) (h2 : mv_i x) (h3 : mv_i z) (hp : pc + 1 = pc') (k0 : mv_Ev sc y pc' ls ((0, ((x.toNat ||| z.toNat : Nat) : Int)) :: r) c h Q) : mv_Ev sc y pc ls ((0, z) :: (0, x) :: r) c h Q := by
  subst hp
  exact e_step hK hg rfl (by simp only [mv_step, mv_b2]; rw [if_pos ⟨h0, h1, h2, h3⟩]) k0
theorem e_icmp {kk : ClassFile.Cond} {off x z : Int} {t : Nat} (hK : (mv_m y).1 = K) (hg : mv_get K pc = some (.if_icmp kk off, a)) (h1 : mv_i x) (h2 : mv_i z) (ht : (pc : Int) + off = t) (hp : pc + 3 = pc') (k1 : mv_cmp kk x z = true → mv_Ev sc y t ls r c h Q) (k2 : mv_cmp kk x z = false → mv_Ev sc y pc' ls r c h Q) : mv_Ev sc y pc ls ((0, z) :: (0, x) :: r) c h Q := by
  subst hp
  have h0 : mv_i x ∧ mv_i z ∧ 0 ≤ (pc : Int) + off := ⟨h1, h2, by omega⟩
  have ht' : ((pc : Int) + off).toNat = t := by omega
  cases hc : mv_cmp kk x z with
  | true => exact e_step hK hg rfl (by simp only [mv_step, mv_b2]; rw [if_pos h0, if_pos hc, ht']) (k1 hc)
  | false => exact e_step hK hg rfl (by simp only [mv_step, mv_b2]; rw [if_pos h0, if_neg (by rw [hc]; decide)]) (k2 hc)
theorem e_if {kk : ClassFile.Cond} {off x : Int} {t : Nat} (hK : (mv_m y).1 = K) (hg : mv_get K pc = some (.ifCond kk off, a)) (h1 : mv_i x) (ht : (pc : Int) + off = t) (hp : pc + 3 = pc') (k1 : mv_cmp kk x 0 = true → mv_Ev sc y t ls r c h Q) (k2 : mv_cmp kk x 0 = false → mv_Ev sc y pc' ls r c h Q) : mv_Ev sc y pc ls ((0, x) :: r) c h Q := by
  subst hp
  have h0 : mv_i x ∧ 0 ≤ (pc : Int) + off := ⟨h1, by omega⟩
  have ht' : ((pc : Int) + off).toNat = t := by omega
  cases hc : mv_cmp kk x 0 with
  | true => exact e_step hK hg rfl (by simp only [mv_step]; rw [if_pos h0, if_pos hc, ht']) (k1 hc)
  | false => exact e_step hK hg rfl (by simp only [mv_step]; rw [if_pos h0, if_neg (by rw [hc]; decide)]) (k2 hc)
theorem e_goto {off : Int} {t : Nat} (hK : (mv_m y).1 = K) (hg : mv_get K pc = some (.goto off, a)) (ht : (pc : Int) + off = t) (k1 : mv_Ev sc y t ls st c h Q) : mv_Ev sc y pc ls st c h Q :=
  e_step hK hg rfl (by simp only [mv_step, mv_jmp]; rw [if_pos (by omega), show ((pc : Int) + off).toNat = t by omega]) k1
end EV
section CMP
variable {x z : Int}
theorem cq_eq : (mv_cmp .eq x z = true ↔ x = z) ∧ (mv_cmp .eq x z = false ↔ ¬ x = z) := ⟨decide_eq_true_iff, decide_eq_false_iff_not⟩
theorem cq_ne : (mv_cmp .ne x z = true ↔ ¬ x = z) ∧ (mv_cmp .ne x z = false ↔ x = z) := ⟨decide_eq_true_iff, by show decide _ = false ↔ _; rw [decide_eq_false_iff_not]; exact Decidable.not_not⟩
theorem cq_lt : (mv_cmp .lt x z = true ↔ x < z) ∧ (mv_cmp .lt x z = false ↔ z ≤ x) := ⟨decide_eq_true_iff, by show decide _ = false ↔ _; rw [decide_eq_false_iff_not]; exact Int.not_lt⟩
theorem cq_ge : (mv_cmp .ge x z = true ↔ z ≤ x) ∧ (mv_cmp .ge x z = false ↔ x < z) := ⟨decide_eq_true_iff, by show decide _ = false ↔ _; rw [decide_eq_false_iff_not]; exact Int.not_le⟩
theorem cq_gt : (mv_cmp .gt x z = true ↔ z < x) ∧ (mv_cmp .gt x z = false ↔ x ≤ z) := ⟨decide_eq_true_iff, by show decide _ = false ↔ _; rw [decide_eq_false_iff_not]; exact Int.not_lt⟩
theorem cq_le : (mv_cmp .le x z = true ↔ x ≤ z) ∧ (mv_cmp .le x z = false ↔ z < x) := ⟨decide_eq_true_iff, by show decide _ = false ↔ _; rw [decide_eq_false_iff_not]; exact Int.not_le⟩
end CMP
end
