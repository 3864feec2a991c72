section CL
variable {p : Program} {l : Launch} {e : Env} {R : Room} {s : State} {m : MethodId} {args : Array Value} {below : List Frame} {meth : Method} {cd : Code} {H : Heap} {locs : List Loc} {cells slots mc ms : Nat} {Q : State → Prop}
variable {y pc : Nat} {D : va_G} {bs base L : Nat} {xs : Nat → Int32} {ι ι0 : Int → Nat} {n n0 : Nat} {h : mv_H} {lsr : Array Slot} {str : List Value} {ls st : List mv_V} {i : Instr} {a : Int}
theorem mv_run206 {sc : Int × (Int → Int)} {N z pc : Nat} {ls st : List mv_V} {c : mv_C} {h : mv_H} {q : mv_R × mv_C × mv_H} (hr : mv_run sc N z pc ls st c h = some q) : z < 206 := by
  cases N with
  | zero => cases hr
  | succ N =>
    rw [mv_run] at hr
    split at hr
    · cases hr
    · exact mv_y206 ‹_›
/-- behind a call that threw -/
theorem mv_finX {c c1 : mv_C} {h1 : mv_H} {r1 : mv_R} {a9 : Array Value} {q : List Value} {ι : Int → Nat} (hS : va_S (mv_A base) s.heap H locs) (h4 : r1.1 = 4)
    (hR : vx_Run p l e R s m args below meth cd H locs cells slots (c1.2.1 - c.2.1) (c1.2.2 - c.2.2) (F0 m pc lsr str) q (mv_QC D bs base ι c.1 r1 c1 h1 a9) (mv_XC D base ι c.1 r1 c1 h1) (mv_A base))
    (Kx : ∀ (H1 : Heap) (locs1 : List Loc) (ι1 : Int → Nat) (ws1 : va_W) (ce : Cell) (x : Addr), va_P D mv_cl ws1 H1 → va_D (mv_A base) ws1 → va_S (mv_A base) s.heap H1 locs1 → mv_w s ι1 c1.1 h1 ws1 → (∀ j : Int, 0 ≤ j → j < c.1 → ι1 j = ι j) → c.1 ≤ c1.1 → H1[x]? = some ce → ce.vm = .none → s.vm.findClass (mv_xn r1.2.toNat) = some ce.cls →
      vx_W p l e R s m args below meth cd H1 locs1 (cells + (c1.2.1 - c.2.1)) (slots + (c1.2.2 - c.2.2)) Q (F0 m pc lsr q) x) :
    W p l e R s m args below meth cd H locs cells slots Q (F0 m pc lsr str) := by
  intro T hT X
  rcases hR T hT X with ⟨v, st₀, t, T', Lc, e0, X', hL, e1, e2, ⟨ι', ws', g1, g2, g3, g4, g5, g6, g7⟩, hgo⟩ | ⟨x, st₀, t, T', Lc, E, ce, e0, X', hL, e1, e2, ⟨-, rfl, ι', ws', g1, g2, g3, g4, g5, g6⟩, k1, k2, k3, hgo⟩
  · omega
  · have hW' : s.WarmedH t.vm := by rw [← e2]; exact X'.warmed
    obtain ⟨t2, a1, b1⟩ := Kx T'.heap (locs ++ Lc) ι' ws' ce x (by rw [e1]; exact g3) g4 (mv_Snext hS e0 e1 g6 hL) (mv_w_mv hW'.alike.symm g5) g1 g2 (by rw [e1]; exact k1) k2 k3 T' rfl X'
    exact ⟨t2, hgo.trans a1, b1⟩
theorem mv_good {w : Cond} (hF : mv_Fx D bs base L xs s) (hw : w ∈ mv_G) : ∀ v ∈ [w], ∀ (a' : Array Value) (U : State), s.WarmedH U.vm → v.before a' U = true := fun v hv a' U hW => by
  rw [List.mem_singleton.mp hv]
  exact word_at hW (good_of_word (List.mem_filter.mp hw).2) (hF.1 w hw #[])
theorem mv_blind {As : List Value} {H : Heap} {s : State} : FrameBlind (fun a U => a = As.toArray ∧ U.heap = H ∧ s.WarmedH U.vm) := fun _ _ _ _ h => ⟨h.1, h.2.1, h.2.2⟩
theorem mv_call {N : Nat} (IH : mv_Sim l D bs base L xs N) {c c1 : mv_C} {h1 : mv_H} {r1 : mv_R} (X : mv_Cx p l m args meth cd y D bs base L xs s) (hg : mv_get (mv_m y).1 pc = some (i, a)) (hki : mv_ki i a = 1)
    (hc1 : (mv_m (mv_z a)).2.1 ≤ st.length) (hc2 : st.length ≤ (mv_m (mv_z a)).2.1 + 4) (hc3 : mv_rc i (mv_z a) (st.take (mv_m (mv_z a)).2.1).reverse h = true) (hc4 : (mv_ents (st.take (mv_m (mv_z a)).2.1).reverse).length ≤ (mv_m (mv_z a)).2.2.1)
    (hrun : mv_run ((L : Int), fun j => (xs j.toNat).toInt) N (mv_z a) 0 (mv_ent (st.take (mv_m (mv_z a)).2.1).reverse (mv_m (mv_z a)).2.2.1) [] c h = some (r1, c1, h1))
    (rel : mv_Rl D s bs base ι c.1 h H locs (mv_m y).2.2.1 lsr str ls st) (hfr : mv_fr y ≤ R.frames) (hlo : mv_lo y ≤ R.locals) (hcs : cells + (c1.2.1 - c.2.1) ≤ R.cells) (hss : slots + (c1.2.2 - c.2.2) ≤ R.slots)
    (Kr : r1.1 ≠ 4 → ∀ (H1 : Heap) (locs1 : List Loc) (ι1 : Int → Nat) (str1 : List Value), mv_Rl D s bs base ι1 c1.1 h1 H1 locs1 (mv_m y).2.2.1 lsr str1 ls (if r1.1 = 3 then st.drop (mv_m (mv_z a)).2.1 else r1 :: st.drop (mv_m (mv_z a)).2.1) → (∀ j : Int, 0 ≤ j → j < c.1 → ι1 j = ι j) → W p l e R s m args below meth cd H1 locs1 (cells + (c1.2.1 - c.2.1)) (slots + (c1.2.2 - c.2.2)) Q (F0 m (pc + 3) lsr str1))
    (Kx : r1.1 = 4 → (a < 1000 ∧ mv_nsp i = true ∧ (mv_m (mv_z a)).2.2.2.2.2 = []) ∧ ∀ (H1 : Heap) (locs1 : List Loc) (ι1 : Int → Nat) (ws1 : va_W) (ce : Cell) (x : Addr) (rest : List Value), va_P D mv_cl ws1 H1 → va_D (mv_A base) ws1 → va_S (mv_A base) s.heap H1 locs1 → mv_w s ι1 c1.1 h1 ws1 → (∀ j : Int, 0 ≤ j → j < c.1 → ι1 j = ι j) → c.1 ≤ c1.1 → mv_rl ι1 c1.1 bs ls (mv_m y).2.2.1 lsr → H1[x]? = some ce → ce.vm = .none → s.vm.findClass (mv_xn r1.2.toNat) = some ce.cls →
      vx_W p l e R s m args below meth cd H1 locs1 (cells + (c1.2.1 - c.2.1)) (slots + (c1.2.2 - c.2.2)) Q (F0 m pc lsr rest) x) :
    W p l e R s m args below meth cd H locs cells slots Q (F0 m pc lsr str) := by
  obtain ⟨hx, hb, hml, hret, hlk, hown, hnm, hxt, hst0, hF⟩ := id X
  obtain ⟨ws, hP, hD, hS, hw, hl, hst⟩ := rel
  have hd := mv_dec hg
  have hz := mv_run206 hrun
  obtain ⟨vs, q, rfl, hvl, hvs, hq⟩ := mv_rs_app _ st str hc1 hst
  have hav := mv_rs_rev _ _ hvs
  have hql : q.length ≤ 4 := by
    have h9 := mv_rs_len _ _ hq
    rw [List.length_drop] at h9
    omega
  have hsum : (q.map fun v => v.category).sum ≤ 8 := by
    have := mv_rs_sum q
    omega
  have hroom : 2 * (F0 m pc lsr (vs ++ q)).monitorRoom + (q.map fun v => v.category).sum ≤ 8 := lv_room hsum
  have hsz : lsr.size = (mv_m y).2.2.1 := by
    obtain ⟨-, lv, hlv, -⟩ := hl
    exact hlv.1
  have S : CallFix p m cd (mv_by y) (mv_m y).2.2.1 s args mv_G (mv_ow y) := ⟨hx, hb, hml, hown, fun w hw9 => hF.1 w hw9 args⟩
  obtain ⟨pl, hpl⟩ := mv_pool hg
  have fin : ∀ a9 : Array Value, r1.1 ≠ 4 → va_Run p l e R s m args below meth cd H locs cells slots (c1.2.1 - c.2.1) (c1.2.2 - c.2.2) (F0 m pc lsr (vs ++ q)) q (mv_QC D bs base ι c.1 r1 c1 h1 a9) (mv_A base) → W p l e R s m args below meth cd H locs cells slots Q (F0 m pc lsr (vs ++ q)) := fun a9 h4 hR =>
    mv_fin (st := st.drop (mv_m (mv_z a)).2.1) (ws := ws) hS hl hq hR (fun H1 locs1 ι1 str1 r e => Kr h4 H1 locs1 ι1 str1 r e)
  have finX : ∀ a9 : Array Value, r1.1 = 4 → vx_Run p l e R s m args below meth cd H locs cells slots (c1.2.1 - c.2.1) (c1.2.2 - c.2.2) (F0 m pc lsr (vs ++ q)) q (mv_QC D bs base ι c.1 r1 c1 h1 a9) (mv_XC D base ι c.1 r1 c1 h1) (mv_A base) → W p l e R s m args below meth cd H locs cells slots Q (F0 m pc lsr (vs ++ q)) := fun a9 h4 hR =>
    mv_finX hS h4 hR (fun H1 locs1 ι1 ws1 ce x w1 w2 w3 w4 w5 w6 w7 w8 w9 => (Kx h4).2 H1 locs1 ι1 ws1 ce x q w1 w2 w3 w4 w5 w6 (mv_rl_up w5 w6 hl) w7 w8 w9)
  have hnoX : r1.1 ≠ 4 → ∀ E st t, ¬ mv_XC D base ι c.1 r1 c1 h1 E st t := fun h4 E st t hX => h4 hX.1
  -- the object of a call with a receiver
  have frk : ∀ (pl : Bool), True := fun _ => trivial
  clear frk
  have hcell : cells + (c1.2.1 - c.2.1) ≤ R.cells ∧ slots + (c1.2.2 - c.2.2) ≤ R.slots := ⟨hcs, hss⟩
  rcases mv_ki1 hki with ⟨k, rfl⟩ | ⟨k, rfl⟩ | ⟨k, rfl⟩
  · -- virtual
    match pl, hpl with
    | [q9], hpl =>
      have hpl : ((if a < 1000 then mv_at (.methodLink (mv_ow y) k (mv_y (mv_z a))) q9 else mv_at (.methodLinkNest (mv_ow y) k (mv_y (mv_z a)) "LineTemplates") q9) && decide (mv_fr (mv_z a) + 1 ≤ mv_fr y) && decide (8 + ((mv_m (mv_z a)).2.2.1 + 11) + mv_lo (mv_z a) ≤ mv_lo y) && (mv_sb (mv_z a) == false) && (mv_hh (mv_z a)).isEmpty && decide ((mv_y (mv_z a)).name ≠ "<init>")) = true := hpl
      simp only [Bool.and_eq_true] at hpl
      obtain ⟨⟨⟨⟨⟨p1, p2⟩, p3⟩, p4⟩, p5⟩, p6⟩ := hpl
      have p2 := of_decide_eq_true p2
      have p3 := of_decide_eq_true p3
      have p4 := beq_iff_eq.mp p4
      have p5 := List.isEmpty_iff.mp p5
      have p6 := of_decide_eq_true p6
      have z3 : mv_z a ≠ 3 := fun hz3 => p6 (by rw [hz3, mv_ob0.1]; rfl)
      have z5 : mv_z a ≠ 205 := fun hz5 => by
        have h9 := of_decide_eq_true (mv_all mv_fr9 (mv_y206 hg))
        rw [hz5] at p2
        have : mv_fr 205 = 9 := rfl
        omega
      obtain ⟨k1, k2, k3, k4⟩ := mv_mk_ok hz z3 z5
      rcases k4 with ⟨k4, -⟩ | ⟨-, k5, k6, k7, k8, k9⟩
      · rw [p4] at k4; cases k4
      rcases k3 with ⟨-, k3⟩ | ⟨-, k3, -⟩
      case inr => rw [p4] at k3; cases k3
      rcases k9 with ⟨k9, -⟩ | k9
      · exact absurd k9 p6
      have hM := mv_met IH hst0 hz z3 hrun hc4 hF hP hD hS hw hav (Or.inl ⟨rfl, p5⟩)
      -- the receiver
      generalize hAv : (st.take (mv_m (mv_z a)).2.1).reverse = avs at hav hc3 hM
      unfold mv_rc at hc3
      match avs, hav, hc3 with
      | (2, bz) :: avr, hav, hc3 =>
        have hc3 := of_decide_eq_true hc3
        cases hvr : vs.reverse with
        | nil => rw [hvr] at hav; exact hav.elim
        | cons x0 As =>
          rw [hvr] at hav hM
          obtain ⟨⟨b0, b1, rfl⟩, hav2⟩ := hav
          have hstk : vs ++ q = As.reverse ++ .ref (ι bz) :: q := by
            have : vs = (Value.ref (ι bz) :: As).reverse := by rw [← hvr, List.reverse_reverse]
            rw [this, List.reverse_cons, List.append_assoc]; rfl
          obtain ⟨e0, he0, hro⟩ := mv_w_at hw b0 b1
          obtain ⟨h5, fs, rfl, -⟩ := (by
            rcases hro with hro | ⟨hro, -⟩
            · exact hro
            · omega : (h bz).1 < 5 ∧ ∃ fs : List Value, e0 = .inr ((h bz).1, fs) ∧ fs.length = mv_fn (h bz).1 ∧ ∀ k : Nat, k < mv_fn (h bz).1 → ∃ v, fs[k]? = some v ∧ mv_rf ι c.1 (mv_ft (h bz).1 k) ((h bz).2.2 k) v)
          have hrecv := va_recv hF.2.2.1 hP (mv_cl_at _ h5) he0
          rw [hc3] at hrecv
          have hrecv : ∃ cell : Cell, H[ι bz]? = some cell ∧ cell.vm.isStatics = false ∧ s.vm.findClass (mv_ow (mv_z a)) = some cell.cls := by
            rw [← k7]; exact hrecv
          have hp : PreV s H (mv_ow (mv_z a)) (ι bz) (fun a9 U => a9 = (Value.ref (ι bz) :: As).toArray ∧ U.heap = H ∧ s.WarmedH U.vm) As := ⟨mv_blind, hrecv, fun U hU hW => ⟨rfl, hU, hW⟩⟩
          have hlen : ∀ sig, parseMethodDescriptor (mv_y (mv_z a)).desc = some sig → As.length = sig.parameters.length := fun sig hsig => by
            rw [hsig] at k5
            have h9 : sig.parameters.length + 1 = (mv_m (mv_z a)).2.1 := Option.some.inj k5
            have h10 : vs.reverse.length = As.length + 1 := by rw [hvr]; rfl
            rw [List.length_reverse, hvl] at h10
            omega
          by_cases ha : a < 1000
          · rw [if_pos ha] at p1
            have cw : CallW R s args (mv_ow y) (mv_ow (mv_z a)) k (mv_y (mv_z a)) (mv_by (mv_z a)) (mv_m (mv_z a)).2.2.1 (mv_rt (mv_z a)) [Cond.code (mv_y (mv_z a)) (mv_by (mv_z a)) (mv_m (mv_z a)).2.2.1 (mv_rt (mv_z a))] { frames := mv_fr (mv_z a), cells := c1.2.1 - c.2.1, slots := c1.2.2 - c.2.2, locals := mv_lo (mv_z a) } (c1.2.1 - c.2.1) (c1.2.2 - c.2.2) As.length :=
              ⟨⟨rfl, rfl, by show mv_fr _ + 1 ≤ _; omega, by show 8 + (_ + 11) + mv_lo _ ≤ _; omega, mv_good hF k3, List.mem_singleton.mpr rfl, hF.1 _ k3 _, hF.1 _ k1 _, k2, hlen, hF.1 _ (mv_G_in (mv_at_in p1) rfl) _⟩, hF.1 _ k8 _, hF.1 _ k9 _⟩
            by_cases h4 : r1.1 = 4
            · exact finX _ h4 (vx_runV S hM cw hp rfl rfl hsz hstk hroom hd hcell)
            · exact fin _ h4 (va_runV S (mv_metR hM (hnoX h4)) cw hp rfl rfl hsz hstk hroom hd hcell)
          · rw [if_neg ha] at p1
            have h4 : r1.1 ≠ 4 := fun h4 => ha (Kx h4).1.1
            exact fin _ h4 (va_runVN (host := "LineTemplates") S (mv_metR hM (hnoX h4)) ⟨⟨⟨rfl, rfl, by show mv_fr _ + 1 ≤ _; omega, by show 8 + (_ + 11) + mv_lo _ ≤ _; omega, mv_good hF k3, List.mem_singleton.mpr rfl⟩, hF.1 _ k3 _, hF.1 _ k1 _, k2, hlen, va_Nw.use rfl (hF.2.1 _ (mv_at_in p1) rfl)⟩, hF.1 _ k8 _, hF.1 _ k9 _⟩ hp rfl rfl hsz hstk hroom hd hcell)
    | [], hpl => cases hpl
    | _ :: _ :: _, hpl => cases hpl
  · -- special
    match pl, hpl with
    | [q9], hpl =>
      have hpl : ((if a < 1000 then mv_at (.methodLink (mv_ow y) k (mv_y (mv_z a))) q9 else mv_at (.methodLinkNest (mv_ow y) k (mv_y (mv_z a)) "LineTemplates") q9 && decide (mv_z a ≠ 3)) && decide (mv_fr (mv_z a) + 1 ≤ mv_fr y) && decide (8 + ((mv_m (mv_z a)).2.2.1 + 11) + mv_lo (mv_z a) ≤ mv_lo y) && (mv_sb (mv_z a) == false) && (mv_hh (mv_z a)).isEmpty && decide ((mv_y (mv_z a)).name = "<init>")) = true := hpl
      simp only [Bool.and_eq_true] at hpl
      obtain ⟨⟨⟨⟨⟨p1, p2⟩, p3⟩, p4⟩, p5⟩, p6⟩ := hpl
      have p2 := of_decide_eq_true p2
      have p3 := of_decide_eq_true p3
      have p4 := beq_iff_eq.mp p4
      have p5 := List.isEmpty_iff.mp p5
      have p6 := of_decide_eq_true p6
      generalize hAv : (st.take (mv_m (mv_z a)).2.1).reverse = avs at hav hc3 hc4 hrun
      unfold mv_rc at hc3
      match avs, hav, hc3, hc4, hrun with
      | (2, bz) :: avr, hav, hc3, hc4, hrun =>
        cases hvr : vs.reverse with
        | nil => rw [hvr] at hav; exact hav.elim
        | cons x0 As =>
          rw [hvr] at hav
          obtain ⟨⟨b0, b1, rfl⟩, hav2⟩ := id hav
          have hstk : vs ++ q = As.reverse ++ .ref (ι bz) :: q := by
            have : vs = (Value.ref (ι bz) :: As).reverse := by rw [← hvr, List.reverse_reverse]
            rw [this, List.reverse_cons, List.append_assoc]; rfl
          have hvl2 : As.length + 1 = (mv_m (mv_z a)).2.1 := by
            have h10 : vs.reverse.length = As.length + 1 := by rw [hvr]; rfl
            rw [List.length_reverse, hvl] at h10
            omega
          by_cases z3 : mv_z a = 3
          · by_cases ha : a < 1000
            · rw [if_pos ha, z3, mv_ob0.1] at p1
              rw [z3] at hrun hvl2 p3
              have hAs : As = [] := by
                have : (mv_m 3).2.1 = 1 := rfl
                exact List.length_eq_zero_iff.mp (by omega)
              subst hAs
              have hr9 : r1 = (3, 0) ∧ c1 = c ∧ h1 = h := by
                cases N with
                | zero => cases hrun
                | succ N =>
                  have : mv_run ((L : Int), fun j => (xs j.toNat).toInt) (N + 1) 3 0 (mv_ent ((2, bz) :: avr) (mv_m 3).2.2.1) [] c h = some ((3, 0), c, h) := rfl
                  rw [this] at hrun
                  cases hrun
                  exact ⟨rfl, rfl, rfl⟩
              obtain ⟨rfl, rfl, rfl⟩ := hr9
              have hstk2 : (F0 m pc lsr (vs ++ q)).stack = .ref (ι bz) :: q := hstk
              have h7 : (3 : Nat) < (mv_m 3).2.1 + 100 := by decide
              refine W.objInit hx hb hown (hF.1 _ (mv_G_in (mv_at_in p1) rfl) _) (hF.1 _ mv_ob0.2.1 _) (hF.1 _ mv_ob0.2.2.1 _) rfl (by show lsr.size = _; rw [hml]; exact hsz) hstk2 hd (by omega) (by
                have h8 : 2 * (F0 m pc lsr (vs ++ q)).monitorRoom + (q.map fun v => v.category).sum ≤ 8 := hroom
                have h9 : (mv_m 3).2.2.1 = 1 := rfl
                omega) ?_
              have := Kr (by decide) H locs ι q ⟨ws, hP, hD, hS, hw, hl, by rw [if_pos rfl]; exact hq⟩ (fun _ _ _ => rfl)
              simpa only [Nat.sub_self, Nat.add_zero] using this
            · rw [if_neg ha] at p1
              exact absurd z3 (of_decide_eq_true ((Bool.and_eq_true _ _).mp p1).2)
          · have z5 : mv_z a ≠ 205 := fun hz5 => by
              have h9 := of_decide_eq_true (mv_all mv_fr9 (mv_y206 hg))
              rw [hz5] at p2
              have : mv_fr 205 = 9 := rfl
              omega
            obtain ⟨k1, k2, k3, k4⟩ := mv_mk_ok hz z3 z5
            rcases k4 with ⟨k4, -⟩ | ⟨-, k5, k6, k7, k8, k9⟩
            · rw [p4] at k4; cases k4
            rcases k3 with ⟨-, k3⟩ | ⟨-, k3, -⟩
            case inr => rw [p4] at k3; cases k3
            have hrt : mv_rt (mv_z a) = none := by
              have h9 := mv_all mv_in0 hz
              rcases (Bool.or_eq_true _ _).mp h9 with h9 | h9
              · exact absurd p6 (of_decide_eq_true h9)
              · exact of_decide_eq_true h9
            have hM := mv_met IH hst0 hz z3 hrun hc4 hF hP hD hS hw hav (Or.inl ⟨rfl, p5⟩)
            rw [hrt] at k3 hM
            have hp : PreS s H (fun a9 U => a9 = (Value.ref (ι bz) :: As).toArray ∧ U.heap = H ∧ s.WarmedH U.vm) (.ref (ι bz) :: As) := ⟨mv_blind, fun U hU hW => ⟨rfl, hU, hW⟩⟩
            have hlen : ∀ sig, parseMethodDescriptor (mv_y (mv_z a)).desc = some sig → As.length = sig.parameters.length := fun sig hsig => by
              rw [hsig] at k5
              have h9 : sig.parameters.length + 1 = (mv_m (mv_z a)).2.1 := Option.some.inj k5
              omega
            have h4 : r1.1 ≠ 4 := fun h4 => by
              have h9 := (Kx h4).1.2.1
              cases h9
            by_cases ha : a < 1000
            · rw [if_pos ha] at p1
              exact fin _ h4 (va_runI S (mv_metR hM (hnoX h4)) ⟨⟨rfl, rfl, by show mv_fr _ + 1 ≤ _; omega, by show 8 + (_ + 11) + mv_lo _ ≤ _; omega, mv_good hF k3, List.mem_singleton.mpr rfl, hF.1 _ k3 _, hF.1 _ k1 _, k2, hlen, hF.1 _ (mv_G_in (mv_at_in p1) rfl) _⟩, p6, hF.1 _ k8 _⟩ hp rfl rfl hsz hstk hroom hd hcell)
            · rw [if_neg ha] at p1
              exact fin _ h4 (va_runIN (host := "LineTemplates") S (mv_metR hM (hnoX h4)) ⟨⟨⟨rfl, rfl, by show mv_fr _ + 1 ≤ _; omega, by show 8 + (_ + 11) + mv_lo _ ≤ _; omega, mv_good hF k3, List.mem_singleton.mpr rfl⟩, hF.1 _ k3 _, hF.1 _ k1 _, k2, hlen, va_Nw.use rfl (hF.2.1 _ (mv_at_in ((Bool.and_eq_true _ _).mp p1).1) rfl)⟩, p6, hF.1 _ k8 _⟩ hp rfl rfl hsz hstk hroom hd hcell)
    | [], hpl => cases hpl
    | _ :: _ :: _, hpl => cases hpl
  · -- static
    match pl, hpl with
    | [q9], hpl =>
      have hpl : ((if a < 1000 then mv_at (.methodLink (mv_ow y) k (mv_y (mv_z a))) q9 else mv_at (.methodLinkNest (mv_ow y) k (mv_y (mv_z a)) "LineTemplates") q9 && (mv_hh (mv_z a)).isEmpty) && decide (mv_fr (mv_z a) + 1 ≤ mv_fr y) && decide (8 + ((mv_m (mv_z a)).2.2.1 + 11) + mv_lo (mv_z a) ≤ mv_lo y) && mv_sb (mv_z a)) = true := hpl
      simp only [Bool.and_eq_true] at hpl
      obtain ⟨⟨⟨p1, p2⟩, p3⟩, p4⟩ := hpl
      have p2 := of_decide_eq_true p2
      have p3 := of_decide_eq_true p3
      have z3 : mv_z a ≠ 3 := fun hz3 => by rw [hz3] at p4; cases p4
      have z5 : mv_z a ≠ 205 := fun hz5 => by
        have h9 := of_decide_eq_true (mv_all mv_fr9 (mv_y206 hg))
        rw [hz5] at p2
        have : mv_fr 205 = 9 := rfl
        omega
      obtain ⟨k1, k2, k3, k4⟩ := mv_mk_ok hz z3 z5
      rcases k4 with ⟨-, k5, k6⟩ | ⟨k4, -⟩
      case inr => rw [p4] at k4; cases k4
      have hstk : vs ++ q = vs.reverse.reverse ++ q := by rw [List.reverse_reverse]
      have hp : PreS s H (fun a9 U => a9 = vs.reverse.toArray ∧ U.heap = H ∧ s.WarmedH U.vm) vs.reverse := ⟨mv_blind, fun U hU hW => ⟨rfl, hU, hW⟩⟩
      have hlen : ∀ sig, parseMethodDescriptor (mv_y (mv_z a)).desc = some sig → vs.reverse.length = sig.parameters.length := fun sig hsig => by
        rw [hsig] at k6
        have h9 := Option.some.inj k6
        rw [List.length_reverse, hvl]; exact h9.symm
      rcases k3 with ⟨k30, k3⟩ | ⟨k3, -, k31⟩
      · have hM := mv_met IH hst0 hz z3 hrun hc4 hF hP hD hS hw hav (Or.inl ⟨rfl, k30⟩)
        by_cases ha : a < 1000
        · rw [if_pos ha] at p1
          have cw : CallB R s args (mv_ow y) k (mv_y (mv_z a)) (mv_by (mv_z a)) (mv_m (mv_z a)).2.2.1 (mv_rt (mv_z a)) [Cond.code (mv_y (mv_z a)) (mv_by (mv_z a)) (mv_m (mv_z a)).2.2.1 (mv_rt (mv_z a))] { frames := mv_fr (mv_z a), cells := c1.2.1 - c.2.1, slots := c1.2.2 - c.2.2, locals := mv_lo (mv_z a) } (c1.2.1 - c.2.1) (c1.2.2 - c.2.2) vs.reverse.length ∧ (Cond.static (mv_y (mv_z a))).before args s = true :=
            ⟨⟨rfl, rfl, by show mv_fr _ + 1 ≤ _; omega, by show 8 + (_ + 11) + mv_lo _ ≤ _; omega, mv_good hF k3, List.mem_singleton.mpr rfl, hF.1 _ k3 _, hF.1 _ k1 _, k2, hlen, hF.1 _ (mv_G_in (mv_at_in p1) rfl) _⟩, hF.1 _ k5 _⟩
          by_cases h4 : r1.1 = 4
          · exact finX _ h4 (vx_runS S hM cw hp rfl rfl hsz hstk hroom hd hcell)
          · exact fin _ h4 (va_runS S (mv_metR hM (hnoX h4)) cw hp rfl rfl hsz hstk hroom hd hcell)
        · rw [if_neg ha] at p1
          have h4 : r1.1 ≠ 4 := fun h4 => ha (Kx h4).1.1
          exact fin _ h4 (va_runSN (host := "LineTemplates") S (mv_metR hM (hnoX h4)) ⟨⟨⟨rfl, rfl, by show mv_fr _ + 1 ≤ _; omega, by show 8 + (_ + 11) + mv_lo _ ≤ _; omega, mv_good hF k3, List.mem_singleton.mpr rfl⟩, hF.1 _ k3 _, hF.1 _ k1 _, k2, hlen, va_Nw.use rfl (hF.2.1 _ (mv_at_in ((Bool.and_eq_true _ _).mp p1).1) rfl)⟩, hF.1 _ k5 _, trivial⟩ hp rfl rfl hsz hstk hroom hd hcell)
      · have hM := mv_met IH hst0 hz z3 hrun hc4 hF hP hD hS hw hav (Or.inr rfl)
        by_cases ha : a < 1000
        · rw [if_pos ha] at p1
          have h4 : r1.1 ≠ 4 ∨ r1.1 = 4 := (Classical.em _).symm
          rcases h4 with h4 | h4
          · exact fin _ h4 (vx_runSW S (mv_metR hM (hnoX h4)) ⟨⟨rfl, rfl, by show mv_fr _ + 1 ≤ _; omega, by show 8 + (_ + 11) + mv_lo _ ≤ _; omega, mv_good hF k3, List.mem_singleton.mpr rfl⟩, hF.1 _ k3 _, hF.1 _ k1 _, k2, hlen, hF.1 _ (mv_G_in (mv_at_in p1) rfl) _, hF.1 _ k5 _⟩ hp rfl rfl hsz hstk hroom hd hcell)
          · exact finX _ h4 (vx_runSX S hM ⟨⟨rfl, rfl, by show mv_fr _ + 1 ≤ _; omega, by show 8 + (_ + 11) + mv_lo _ ≤ _; omega, mv_good hF k3, List.mem_singleton.mpr rfl⟩, hF.1 _ k3 _, hF.1 _ k1 _, k2, hlen, hF.1 _ (mv_G_in (mv_at_in p1) rfl) _, hF.1 _ k5 _⟩ hp rfl rfl hsz hstk hroom hd hcell)
        · rw [if_neg ha] at p1
          exact absurd (List.isEmpty_iff.mp ((Bool.and_eq_true _ _).mp p1).2) k31
    | [], hpl => cases hpl
    | _ :: _ :: _, hpl => cases hpl
end CL
