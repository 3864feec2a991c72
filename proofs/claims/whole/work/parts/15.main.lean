/-! the main row: what the small machine does, the real one does -/
section MN
variable {p : Program} {l : Launch} {e : Env} {R : Room} {s : State} {m : MethodId} {args : Array Value} {below : List Frame} {meth : Method} {cd : Code} {H : Heap} {locs : List Loc} {cells slots mc ms : Nat} {Q : State → Prop}
variable {y pc : Nat} {D : va_G} {bs base L : Nat} {xs : Nat → Int32} {ι ι0 : Int → Nat} {n n0 : Nat} {h : mv_H} {lsr : Array Slot} {str : List Value} {ls st : List mv_V} {i : Instr} {a : Int}
theorem mv_get_mem : ∀ (k : mv_K) (pc : Nat) (i : Instr) (a : Int), mv_get k pc = some (i, a) → (pc, i, a) ∈ k
  | [], _, _, _, h => by cases h
  | (q, i0, a0) :: k, pc, i, a, h => by
    unfold mv_get at h
    cases hb : Nat.beq q pc with
    | true =>
      rw [hb] at h
      cases h
      have := Nat.eq_of_beq_eq_true hb
      subst this
      exact List.mem_cons_self
    | false =>
      rw [hb] at h
      exact List.mem_cons_of_mem _ (mv_get_mem k pc i a h)
theorem mv_endW {r : mv_R} {c : mv_C} (X : mv_Cx p l m args meth cd y D bs base L xs s) (hg : mv_get (mv_m y).1 pc = some (i, a)) (hr : mv_ret (mv_m y).2.2.2.1 i st = some r) (rel : mv_Rl D s bs base ι c.1 h H locs (mv_m y).2.2.1 lsr str ls st)
    (hι : ∀ j : Int, 0 ≤ j → j < n0 → ι j = ι0 j) (hn : n0 ≤ c.1) (hc : cells ≤ mc) (hs : slots ≤ ms) :
    W p l e R s m args below meth cd H locs cells slots (vx_MQ below (mv_QC D bs base ι0 n0 r c h) (mv_XC D base ι0 n0 r c h) args s mc ms (mv_A base)) (F0 m pc lsr str) := by
  obtain ⟨hx, hb, hml, hret, hlk, hown, hnm, hxt, hst0, hF⟩ := id X
  obtain ⟨ws, hP, hD, hS, hw, hl, hst⟩ := rel
  have hd := mv_dec hg
  have hrk := mv_all mv_rk0 (mv_y206 hg)
  generalize (mv_m y).2.2.2.1 = k at hr hrk
  cases i <;> simp only [mv_ret] at hr <;> first | (cases hr; done) | skip
  · -- areturn
    split at hr
    · rename_i z
      split at hr
      · rename_i hk
        cases hr
        subst hk
        obtain ⟨q1, rfl, h0, h1, h2⟩ := mv_rs_r hst
        cases mv_rs_n h2
        have hrt : ∃ nm, mv_rt y = some (.object nm) := by
          revert hrk
          unfold mv_rkt
          generalize mv_rt y = rt
          intro hrk
          match rt, hrk with
          | some (.object nm), _ => exact ⟨nm, rfl⟩
        obtain ⟨nm, hrt⟩ := hrt
        exact vx_ret (W.widen hc hs (W.aret hx hb (hret.trans hrt) (Or.inl ⟨nm, rfl⟩) (Or.inr ⟨_, rfl⟩) (fun t ht hW => ⟨ι, ws, hι, hn, by rw [ht]; exact hP, hD, mv_w_mv hW.alike hw, hS.F ht, Or.inr ⟨(by show (2 : Nat) < 3; decide), _, rfl, ⟨h0, h1, rfl⟩⟩⟩) hS.2.2 hd hlk))
      · cases hr
    · cases hr
  · -- ireturn
    split at hr
    · rename_i z
      split at hr
      · rename_i hk
        cases hr
        obtain ⟨q1, rfl, h2⟩ := mv_rs_i hst
        cases mv_rs_n h2
        rcases hk with rfl | ⟨rfl, hz⟩
        · exact vx_ret (W.widen hc hs (W.iret hx hb (hret.trans (of_decide_eq_true hrk)) (fun t ht hW => ⟨ι, ws, hι, hn, by rw [ht]; exact hP, hD, mv_w_mv hW.alike hw, hS.F ht, Or.inr ⟨(by show (0 : Nat) < 3; decide), _, rfl, rfl⟩⟩) hS.2.2 hd hlk))
        · exact vx_ret (W.widen hc hs (W.zret hx hb (hret.trans (of_decide_eq_true hrk)) (by rcases hz with rfl | rfl <;> rfl) (fun t ht hW => ⟨ι, ws, hι, hn, by rw [ht]; exact hP, hD, mv_w_mv hW.alike hw, hS.F ht, Or.inr ⟨(by show (0 : Nat) < 3; decide), _, rfl, rfl⟩⟩) hS.2.2 hd hlk))
      · cases hr
    · cases hr
  · -- lreturn
    split at hr
    · rename_i z
      split at hr
      · rename_i hk
        cases hr
        subst hk
        obtain ⟨q1, rfl, h2⟩ := mv_rs_j hst
        cases mv_rs_n h2
        exact vx_ret (W.widen hc hs (W.lret hx hb (hret.trans (of_decide_eq_true hrk)) (fun t ht hW => ⟨ι, ws, hι, hn, by rw [ht]; exact hP, hD, mv_w_mv hW.alike hw, hS.F ht, Or.inr ⟨(by show (1 : Nat) < 3; decide), _, rfl, rfl⟩⟩) hS.2.2 hd hlk))
      · cases hr
    · cases hr
  · -- return
    split at hr
    · split at hr
      · rename_i hk
        cases hr
        subst hk
        cases mv_rs_n hst
        exact vx_ret (W.widen hc hs (W.vret hx hb (hret.trans (of_decide_eq_true hrk)) (fun t ht hW => ⟨ι, ws, hι, hn, by rw [ht]; exact hP, hD, mv_w_mv hW.alike hw, hS.F ht, Or.inl ⟨rfl, rfl⟩⟩) hS.2.2 hd hlk))
      · cases hr
    · cases hr
theorem mv_hh0 (hy : y < 206) (h0 : (mv_m y).2.2.2.2.2 = []) : mv_hh y = [] := by
  have h1 := mv_all mv_hd0 hy
  simp only [Bool.and_eq_true] at h1
  have h2 := of_decide_eq_true h1.1.1
  rw [h0] at h2
  exact (List.map_eq_nil_iff.mp h2.symm)
theorem mv_thrW {k : Nat} {c : mv_C} (X : mv_Cx p l m args meth cd y D bs base L xs s) (hg : mv_get (mv_m y).1 pc = some (.new k, a)) (ha : a < 0) (hh0 : (mv_m y).2.2.2.2.2 = []) (rel : mv_Rl D s bs base ι c.1 h H locs (mv_m y).2.2.1 lsr str ls [])
    (hfr : mv_fr y ≤ R.frames) (hlo : mv_lo y ≤ R.locals) (hι : ∀ j : Int, 0 ≤ j → j < n0 → ι j = ι0 j) (hn : n0 ≤ c.1) (hc : cells + 1 ≤ mc) (hs : slots + 6 ≤ ms) (hmc : mc ≤ R.cells) (hms : ms ≤ R.slots) :
    W p l e R s m args below meth cd H locs cells slots (vx_MQ below (mv_QC D bs base ι0 n0 (4, -1 - a) (c.1, c.2.1 + 1, c.2.2 + 6) h) (mv_XC D base ι0 n0 (4, -1 - a) (c.1, c.2.1 + 1, c.2.2 + 6) h) args s mc ms (mv_A base)) (F0 m pc lsr str) := by
  obtain ⟨hx, hb, hml, hret, hlk, hown, hnm, hxt, hst0, hF⟩ := id X
  obtain ⟨ws, hP, hD, hS, hw, hl, hst⟩ := rel
  cases mv_rs_n hst
  have hy := mv_y206 hg
  have hd := mv_dec hg
  have h1 := List.all_eq_true.mp (mv_all mv_tk0 hy) _ (mv_get_mem _ _ _ _ hg)
  have h2 : mv_tk y pc a = true := by
    rcases (Bool.or_eq_true _ _).mp h1 with h2 | h2
    · have := of_decide_eq_true h2
      have h9 : 0 ≤ a := this
      omega
    · exact h2
  obtain ⟨q, hq, hq2⟩ := List.any_eq_true.mp h2
  simp only [Bool.and_eq_true] at hq2
  obtain ⟨⟨e1, e2⟩, e3⟩ := hq2
  have e1 := Nat.eq_of_beq_eq_true e1
  have e2 := Nat.eq_of_beq_eq_true e2
  have e3 := of_decide_eq_true e3
  have htd := List.all_eq_true.mp mv_td0 q hq
  obtain ⟨q1, q2, qw, qi, qt, qE⟩ := q
  dsimp only at e1 e2 e3
  subst e1
  subst e2
  simp only [mv_tdk, Bool.and_eq_true] at htd
  obtain ⟨⟨⟨⟨⟨⟨t1, t2⟩, t3⟩, t4⟩, t5⟩, t6⟩, t7⟩ := htd
  have u1 := of_decide_eq_true t1
  have u2 := of_decide_eq_true t2
  have u3 := of_decide_eq_true t3
  have u4 := of_decide_eq_true t4
  have u5 := of_decide_eq_true t5
  have u6 := of_decide_eq_true t6
  have hE : (-1 - a).toNat = qE := by omega
  obtain ⟨pl, hpl⟩ := mv_pool hg
  have hlk2 : (Cond.classLink (mv_ow q1) k (mv_xn qE)).before args s = true := by
    match pl, hpl with
    | [z], hpl =>
      have hpl : (if a < 0 then mv_at (.classLink (mv_ow q1) k (mv_xn (-1 - a).toNat)) z && decide (mv_ow q1 = "LineTemplates") && decide (-3 ≤ a) && (mv_hh q1).isEmpty else _) = true := hpl
      rw [if_pos ha] at hpl
      simp only [Bool.and_eq_true] at hpl
      rw [hE] at hpl
      exact hF.1 _ (mv_G_in (mv_at_in hpl.1.1.1) rfl) _
    | [], hpl => cases hpl
    | _ :: _ :: _, hpl => cases hpl
  rw [u3] at hlk2 hown
  have hxw : mv_xw qE = true := by
    match qE, u2 with
    | 0, _ => exact mv_xw0.1
    | 1, _ => exact mv_xw0.2.1
    | 2, _ => exact mv_xw0.2.2
  simp only [mv_xw, Bool.and_eq_true] at hxw
  obtain ⟨⟨⟨x1, x2⟩, x3⟩, x4⟩ := hxw
  have x4 := of_decide_eq_true x4
  have hat : ∀ w ∈ vx_atS "LineTemplates" (mv_xi qE) (mv_xn qE) mv_xns, w.before args s = true := fun w hw9 => by
    have h9 := List.all_eq_true.mp x1 w hw9
    simp only [Bool.and_eq_true] at h9
    have h10 := of_decide_eq_true h9.1.1
    rcases (Bool.or_eq_true _ _).mp h9.1.2 with h11 | h11
    · exact hF.1 _ (mv_G_in h10 h11) _
    · exact va_Nw.use (by cases w <;> simp only [mv_nw] at h11 <;> first | rfl | cases h11) (hF.2.1 w h10 h11)
  have hgood : ∀ w ∈ Cond.classLink "LineTemplates" k (mv_xn qE) :: Cond.initialized (mv_xn qE) :: vx_atS "LineTemplates" (mv_xi qE) (mv_xn qE) mv_xns, vx_ot w = true := fun w hw9 => by
    rcases List.mem_cons.mp hw9 with rfl | hw9
    · rfl
    · rcases List.mem_cons.mp hw9 with rfl | hw9
      · rfl
      · have h9 := List.all_eq_true.mp x1 w hw9
        simp only [Bool.and_eq_true] at h9
        exact h9.2
  obtain ⟨sa, hsa⟩ := hF.2.2.2.2.2.1 _ u4
  have hsz : lsr.size = cd.maxLocals := by
    obtain ⟨-, lv, hlv, -⟩ := hl
    rw [hml]; exact hlv.1
  have hout : ∀ (pc9 : Nat), ∀ x ∈ cd.exceptionTable.toList, covers x pc9 = false := fun pc9 x hx9 => by
    rw [hxt, mv_hh0 hy hh0] at hx9
    cases hx9
  have hX : ∀ t : State, s.vm.Alike t.vm → H.size ≤ t.heap.size → (∀ q : Nat, q < H.size → t.heap[q]? = H[q]?) → mv_XC D base ι0 n0 (4, -1 - a) (c.1, c.2.1 + 1, c.2.2 + 6) h (mv_xn qE) s t := fun t hvm hz hk => by
    refine ⟨rfl, by show _ = mv_xn (-1 - a).toNat; rw [hE], ι, ws, hι, hn, hP.kept (fun k9 q9 hq9 => hk _ (hP k9 q9 hq9).lt), hD, mv_w_mv hvm hw, ⟨Nat.le_trans hS.1 hz, fun q9 h8 h9 => ?_⟩⟩
    rw [hk q9 (Nat.lt_of_lt_of_le h8 hS.1)]
    exact hS.2.1 q9 h8 h9
  cases qw with
  | true =>
    obtain ⟨⟨d4, d7⟩, d10⟩ := (by simpa only [Bool.and_eq_true, if_true] using t7 : (_ ∧ _) ∧ _)
    exact vx_throwSW hx hb hst0 hown x2 (List.all_eq_true.mp x3) hlk2 (hF.1 _ x4 _) hsa hat hgood hF.2.2.2.2.1.1 hF.2.2.2.2.1.2 hS hsz hd u1 (of_decide_eq_true d4) (of_decide_eq_true d7) (of_decide_eq_true d10) (hout _) (by show 2 + 3 < R.frames; omega) (by show 0 + (13 * (2 + 1) + 43) ≤ R.locals; omega) (by omega) (by omega) hlk hX hS.2.2 hc hs
  | false =>
    obtain ⟨⟨d4, d7⟩, d10⟩ := (by simpa only [Bool.and_eq_true, Bool.false_eq_true, if_false] using t7 : (_ ∧ _) ∧ _)
    exact vx_throwS hx hb hst0 hown x2 (List.all_eq_true.mp x3) hlk2 (hF.1 _ x4 _) hsa hat hgood hF.2.2.2.2.1.1 hF.2.2.2.2.1.2 hS hsz hd u1 (of_decide_eq_true d4) (of_decide_eq_true d7) (of_decide_eq_true d10) (hout _) (by show 2 + 3 < R.frames; omega) (by show 0 + (13 * (2 + 1) + 43) ≤ R.locals; omega) (by omega) (by omega) hlk hX hS.2.2 hc hs
end MN
