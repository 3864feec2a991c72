theorem nu_narz {x : Int} (h : x = 0 ∨ x = 1) : vp_nar .boolean (Int32.ofInt x) = Int32.ofInt x := by
  rcases h with rfl | rfl <;> rfl
/-! fields, arrays, objects made -/
theorem mv_fn5 {ci : Nat} (h : 5 ≤ ci) : mv_fn ci = 0 := by
  unfold mv_fn
  rw [List.getD_eq_getElem?_getD, List.getElem?_eq_none (by exact h)]; rfl
theorem mv_cl_at : ∀ ci, ci < 5 → mv_cl[ci]? = some (mv_cn ci, mv_cT ci, mv_fn ci)
  | 0, _ => rfl
  | 1, _ => rfl
  | 2, _ => rfl
  | 3, _ => rfl
  | 4, _ => rfl
  | k + 5, h => absurd h (by omega)
theorem mv_cT1 : ∀ ci, ci < 5 → ∀ k, (mv_cT ci k).1 = mv_cn ci
  | 0, _, k => by show (mv_T0 k).1 = "LineTemplates"; unfold mv_T0; split <;> rfl
  | 1, _, k => by show (mv_T1 k).1 = "LineTemplates$Line"; unfold mv_T1; split <;> rfl
  | 2, _, k => by show (mv_T2 k).1 = "LineTemplates$State"; unfold mv_T2; split <;> rfl
  | 3, _, k => by show (mv_T3 k).1 = "LineTemplates$History"; unfold mv_T3; split <;> rfl
  | 4, _, k => by show (mv_T4 k).1 = "LineTemplatesModel"; unfold mv_T4; split <;> rfl
  | k + 5, h, _ => absurd h (by omega)
set_option maxRecDepth 100000 in
theorem mv_uw_0 : ∀ w ∈ u_ws (mv_cn 0) (mv_cT 0) (mv_fn 0), w ∈ mv_G := by decide +kernel
set_option maxRecDepth 100000 in
theorem mv_uw_1 : ∀ w ∈ u_ws (mv_cn 1) (mv_cT 1) (mv_fn 1), w ∈ mv_G := by decide +kernel
set_option maxRecDepth 100000 in
theorem mv_uw_2 : ∀ w ∈ u_ws (mv_cn 2) (mv_cT 2) (mv_fn 2), w ∈ mv_G := by decide +kernel
set_option maxRecDepth 100000 in
theorem mv_uw_3 : ∀ w ∈ u_ws (mv_cn 3) (mv_cT 3) (mv_fn 3), w ∈ mv_G := by decide +kernel
set_option maxRecDepth 100000 in
theorem mv_uw_4 : ∀ w ∈ u_ws (mv_cn 4) (mv_cT 4) (mv_fn 4), w ∈ mv_G := by decide +kernel
theorem mv_uw : ∀ ci, ci < 5 → ∀ w ∈ u_ws (mv_cn ci) (mv_cT ci) (mv_fn ci), w ∈ mv_G
  | 0, _ => mv_uw_0
  | 1, _ => mv_uw_1
  | 2, _ => mv_uw_2
  | 3, _ => mv_uw_3
  | 4, _ => mv_uw_4
  | k + 5, h => absurd h (by omega)
def mv_ty (ci k : Nat) : FieldType := (parseFieldDescriptor (mv_cT ci k).2.2.1).getD .int
def mv_isR (t : FieldType) : Bool := match t with
  | .object _ => true
  | .array _ => true
  | _ => false
theorem mv_tq_0 : ∀ k, k < mv_fn 0 → parseFieldDescriptor (mv_cT 0 k).2.2.1 = some (mv_ty 0 k) ∧ (mv_ft 0 k = 0 ∧ mv_ty 0 k = .int ∨ mv_ft 0 k = 2 ∧ mv_isR (mv_ty 0 k) = true) := by decide +kernel
theorem mv_nq_0 : ∀ x, x < mv_fn 0 → ∀ z, z < mv_fn 0 → x ≠ z → (mv_cT 0 x).2.1 ≠ (mv_cT 0 z).2.1 := by decide +kernel
theorem mv_iq_0 : Cond.instantiable (mv_cn 0) (mv_fn 0) ∈ mv_G ∧ Cond.initialized (mv_cn 0) ∈ mv_G := by decide +kernel
theorem mv_tq_1 : ∀ k, k < mv_fn 1 → parseFieldDescriptor (mv_cT 1 k).2.2.1 = some (mv_ty 1 k) ∧ (mv_ft 1 k = 0 ∧ mv_ty 1 k = .int ∨ mv_ft 1 k = 2 ∧ mv_isR (mv_ty 1 k) = true) := by decide +kernel
theorem mv_nq_1 : ∀ x, x < mv_fn 1 → ∀ z, z < mv_fn 1 → x ≠ z → (mv_cT 1 x).2.1 ≠ (mv_cT 1 z).2.1 := by decide +kernel
theorem mv_iq_1 : Cond.instantiable (mv_cn 1) (mv_fn 1) ∈ mv_G ∧ Cond.initialized (mv_cn 1) ∈ mv_G := by decide +kernel
theorem mv_tq_2 : ∀ k, k < mv_fn 2 → parseFieldDescriptor (mv_cT 2 k).2.2.1 = some (mv_ty 2 k) ∧ (mv_ft 2 k = 0 ∧ mv_ty 2 k = .int ∨ mv_ft 2 k = 2 ∧ mv_isR (mv_ty 2 k) = true) := by decide +kernel
theorem mv_nq_2 : ∀ x, x < mv_fn 2 → ∀ z, z < mv_fn 2 → x ≠ z → (mv_cT 2 x).2.1 ≠ (mv_cT 2 z).2.1 := by decide +kernel
theorem mv_iq_2 : Cond.instantiable (mv_cn 2) (mv_fn 2) ∈ mv_G ∧ Cond.initialized (mv_cn 2) ∈ mv_G := by decide +kernel
theorem mv_tq_3 : ∀ k, k < mv_fn 3 → parseFieldDescriptor (mv_cT 3 k).2.2.1 = some (mv_ty 3 k) ∧ (mv_ft 3 k = 0 ∧ mv_ty 3 k = .int ∨ mv_ft 3 k = 2 ∧ mv_isR (mv_ty 3 k) = true) := by decide +kernel
theorem mv_nq_3 : ∀ x, x < mv_fn 3 → ∀ z, z < mv_fn 3 → x ≠ z → (mv_cT 3 x).2.1 ≠ (mv_cT 3 z).2.1 := by decide +kernel
theorem mv_iq_3 : Cond.instantiable (mv_cn 3) (mv_fn 3) ∈ mv_G ∧ Cond.initialized (mv_cn 3) ∈ mv_G := by decide +kernel
theorem mv_tq_4 : ∀ k, k < mv_fn 4 → parseFieldDescriptor (mv_cT 4 k).2.2.1 = some (mv_ty 4 k) ∧ (mv_ft 4 k = 0 ∧ mv_ty 4 k = .int ∨ mv_ft 4 k = 2 ∧ mv_isR (mv_ty 4 k) = true) := by decide +kernel
theorem mv_nq_4 : ∀ x, x < mv_fn 4 → ∀ z, z < mv_fn 4 → x ≠ z → (mv_cT 4 x).2.1 ≠ (mv_cT 4 z).2.1 := by decide +kernel
theorem mv_iq_4 : Cond.instantiable (mv_cn 4) (mv_fn 4) ∈ mv_G ∧ Cond.initialized (mv_cn 4) ∈ mv_G := by decide +kernel
theorem mv_tq : ∀ ci, ci < 5 → ∀ k, k < mv_fn ci → parseFieldDescriptor (mv_cT ci k).2.2.1 = some (mv_ty ci k) ∧ (mv_ft ci k = 0 ∧ mv_ty ci k = .int ∨ mv_ft ci k = 2 ∧ mv_isR (mv_ty ci k) = true)
  | 0, _ => mv_tq_0
  | 1, _ => mv_tq_1
  | 2, _ => mv_tq_2
  | 3, _ => mv_tq_3
  | 4, _ => mv_tq_4
  | k + 5, h => absurd h (by omega)
theorem mv_nq : ∀ ci, ci < 5 → ∀ x, x < mv_fn ci → ∀ z, z < mv_fn ci → x ≠ z → (mv_cT ci x).2.1 ≠ (mv_cT ci z).2.1
  | 0, _ => mv_nq_0
  | 1, _ => mv_nq_1
  | 2, _ => mv_nq_2
  | 3, _ => mv_nq_3
  | 4, _ => mv_nq_4
  | k + 5, h => absurd h (by omega)
theorem mv_iq : ∀ ci, ci < 5 → Cond.instantiable (mv_cn ci) (mv_fn ci) ∈ mv_G ∧ Cond.initialized (mv_cn ci) ∈ mv_G
  | 0, _ => mv_iq_0
  | 1, _ => mv_iq_1
  | 2, _ => mv_iq_2
  | 3, _ => mv_iq_3
  | 4, _ => mv_iq_4
  | k + 5, h => absurd h (by omega)
theorem mv_isR_n {t : FieldType} (h : mv_isR t = true) (v : Value) (hv : (∃ q, v = .ref q) ∨ v = .null) : narrow t v = v ∧ fits t v = true ∧ defaultValue t = .null := by
  cases t <;> simp only [mv_isR] at h <;> first | (cases h; done) | (rcases hv with ⟨q, rfl⟩ | rfl <;> exact ⟨rfl, rfl, rfl⟩)
theorem mv_aw : Cond.arrayClass .int ∈ mv_G ∧ Cond.arrayClass .char ∈ mv_G ∧ Cond.arrayClass .boolean ∈ mv_G ∧ Cond.arrayClass .long ∈ mv_G := by decide +kernel
section HPS
variable {p : Program} {l : Launch} {e : Env} {R : Room} {s : State} {m : MethodId} {args : Array Value} {below : List Frame} {meth : Method} {cd : Code} {H : Heap} {locs : List Loc} {cells slots : Nat} {Q : State → Prop}
variable {y pc : Nat} {D : va_G} {bs base L : Nat} {xs : Nat → Int32} {ι : Int → Nat} {n : Nat} {h : mv_H} {lsr : Array Slot} {str : List Value} {ls st : List mv_V} {i : Instr} {a : Int}
theorem mv_K1 {cA : ClassId} {ty : FieldType} (hK : va_K D mv_cl [] s) (h1 : ArrOfT s cA ty) (h2 : va_RA s cA ty) : va_K D mv_cl [(cA, ty)] s := by
  refine ⟨hK.1, fun k q hk => ?_⟩
  match k, hk with
  | 0, hk => cases hk; exact ⟨h1, h2⟩
  | k + 1, hk => simp at hk
theorem mv_K2 {cA : ClassId} {ty : FieldType} (hK : va_K D mv_cl ([] ++ [(cA, ty)]) s) : ArrOfT s cA ty ∧ va_RA s cA ty := hK.2 0 (cA, ty) rfl
/-- an instance in the world -/
theorem mv_ro_c {o : mv_O} {e0 : va_E} (h0 : mv_ro s ι n o e0) {k : Nat} (hk : k < mv_fn o.1) : o.1 < 5 ∧ ∃ fs : List Value, e0 = .inr (o.1, fs) ∧ fs.length = mv_fn o.1 ∧ ∀ k : Nat, k < mv_fn o.1 → ∃ v, fs[k]? = some v ∧ mv_rf ι n (mv_ft o.1 k) (o.2.2 k) v := by
  rcases h0 with h0 | ⟨h1, -⟩
  · exact h0
  · rw [mv_fn5 (by omega)] at hk; omega
/-- an array in the world -/
theorem mv_ro_a {o : mv_O} {e0 : va_E} (h0 : mv_ro s ι n o e0) (h1 : 10 ≤ o.1) : o.1 ≤ 15 ∧ ∃ (cA : ClassId) (N : Nat) (x : vp_A), e0 = .inl (cA, x) ∧ o.2.1 = N ∧ N ≤ 100000 ∧ ArrOfT s cA (mv_kt o.1) ∧ va_RA s cA (mv_kt o.1) ∧ mv_rc0 ι n o.1 N o.2.2 x := by
  rcases h0 with ⟨h2, -⟩ | ⟨-, h2, h3⟩
  · omega
  · exact ⟨h2, h3⟩
theorem mv_rc_i {k N : Nat} {f : Int → Int} {x : vp_A} (h0 : mv_rc0 ι n k N f x) (hk : k < 13) : ∃ g : Nat → Int32, x = (N, .inl g) ∧ ∀ j : Nat, j < N → g j = Int32.ofInt (f j) := by
  obtain ⟨h1, ⟨-, g, h2, h3⟩ | ⟨h2, -⟩ | ⟨h2, -⟩⟩ := h0
  · exact ⟨g, by obtain ⟨x1, x2⟩ := x; cases h1; cases h2; rfl, h3⟩
  · omega
  · omega
theorem mv_rc_j {k N : Nat} {f : Int → Int} {x : vp_A} (h0 : mv_rc0 ι n k N f x) (hk : k = 13) : ∃ g : Nat → Int64, x = (N, .inr (.inl g)) ∧ ∀ j : Nat, j < N → g j = Int64.ofInt (f j) := by
  obtain ⟨h1, ⟨h2, -⟩ | ⟨-, g, h2, h3⟩ | ⟨h2, -⟩⟩ := h0
  · omega
  · exact ⟨g, by obtain ⟨x1, x2⟩ := x; cases h1; cases h2; rfl, h3⟩
  · omega
theorem mv_rc_r {k N : Nat} {f : Int → Int} {x : vp_A} (h0 : mv_rc0 ι n k N f x) (hk : 13 < k) : ∃ g : Nat → Option Nat, x = (N, .inr (.inr (.inr (.inr g)))) ∧ ∀ j : Nat, j < N → (0 ≤ f j ∧ f j < n ∧ g j = some (ι (f j))) ∨ (f j < 0 ∧ g j = none) := by
  obtain ⟨h1, ⟨h2, -⟩ | ⟨h2, -⟩ | ⟨-, g, h2, h3⟩⟩ := h0
  · omega
  · omega
  · exact ⟨g, by obtain ⟨x1, x2⟩ := x; cases h1; cases h2; rfl, h3⟩
theorem mv_upd_i {f : Int → Int} {g : Nat → Int32} {N : Nat} {j x : Int} {z : Int32} (hg : ∀ j : Nat, j < N → g j = Int32.ofInt (f j)) (h0 : 0 ≤ j) (hz : z = Int32.ofInt x) : ∀ k : Nat, k < N → upd g j.toNat z k = Int32.ofInt (mv_up f j x k) := by
  intro k hk
  unfold upd mv_up
  by_cases hkj : k = j.toNat
  · rw [if_pos hkj, if_pos (by omega)]; exact hz
  · rw [if_neg hkj, if_neg (by omega)]; exact hg k hk
theorem mv_upd_j {f : Int → Int} {g : Nat → Int64} {N : Nat} {j x : Int} {z : Int64} (hg : ∀ j : Nat, j < N → g j = Int64.ofInt (f j)) (h0 : 0 ≤ j) (hz : z = Int64.ofInt x) : ∀ k : Nat, k < N → vp_updL g j.toNat z k = Int64.ofInt (mv_up f j x k) := by
  intro k hk
  unfold vp_updL mv_up
  by_cases hkj : k = j.toNat
  · rw [if_pos hkj, if_pos (by omega)]; exact hz
  · rw [if_neg hkj, if_neg (by omega)]; exact hg k hk
theorem mv_upd_r {f : Int → Int} {g : Nat → Option Nat} {N : Nat} {j x : Int} (hg : ∀ j : Nat, j < N → (0 ≤ f j ∧ f j < n ∧ g j = some (ι (f j))) ∨ (f j < 0 ∧ g j = none)) (h0 : 0 ≤ j) (hx : 0 ≤ x) (hxn : x < n) : ∀ k : Nat, k < N → (0 ≤ mv_up f j x k ∧ mv_up f j x k < n ∧ va_up g j.toNat (some (ι x)) k = some (ι (mv_up f j x k))) ∨ (mv_up f j x k < 0 ∧ va_up g j.toNat (some (ι x)) k = none) := by
  intro k hk
  unfold va_up mv_up
  by_cases hkj : k = j.toNat
  · rw [if_pos hkj, if_pos (by omega)]; exact Or.inl ⟨hx, hxn, rfl⟩
  · rw [if_neg hkj, if_neg (by omega)]; exact hg k hk

theorem mv_w_getfield {c c' : mv_C} {h' : mv_H} {pc' : Nat} {ls' st' : List mv_V} {k : Nat} (X : mv_Cx p l m args meth cd y D bs base L xs s) (hg : mv_get (mv_m y).1 pc = some (.getfield k, a)) (hs : mv_step ((L : Int), fun j => (xs j.toNat).toInt) pc (.getfield k) a ls st c h = some (pc', ls', st', c', h'))
    (rel : mv_Rl D s bs base ι c.1 h H locs (mv_m y).2.2.1 lsr str ls st) (hcs : cells + (c'.2.1 - c.2.1) ≤ R.cells) (hss : slots + (c'.2.2 - c.2.2) ≤ R.slots)
    (K : ∀ (H1 : Heap) (locs1 : List Loc) (ι1 : Int → Nat) (lsr1 : Array Slot) (str1 : List Value), mv_Rl D s bs base ι1 c'.1 h' H1 locs1 (mv_m y).2.2.1 lsr1 str1 ls' st' → (∀ j : Int, 0 ≤ j → j < c.1 → ι1 j = ι j) → W p l e R s m args below meth cd H1 locs1 (cells + (c'.2.1 - c.2.1)) (slots + (c'.2.2 - c.2.2)) Q (F0 m pc' lsr1 str1)) : W p l e R s m args below meth cd H locs cells slots Q (F0 m pc lsr str) := by
  obtain ⟨hx, hb, hml, hret, hlk, hown, hnm, hxt, hst0, hF⟩ := id X
  obtain ⟨ws, hP, hD, hS, hw, hl, hst⟩ := rel
  have hd := mv_dec hg
  simp only [mv_step] at hs
  split at hs
  · rename_i ob r
    obtain ⟨q1, rfl, ho0, ho1, hst1⟩ := mv_rs_r hst
    split at hs
    · rename_i hc
      obtain ⟨e0, he0, hro⟩ := mv_w_at hw ho0 ho1
      obtain ⟨h5, fs, rfl, hfl, hfk⟩ := mv_ro_c hro (k := (a % 100).toNat) (by rw [hc.1]; exact hc.2)
      obtain ⟨v, hv1, hv2⟩ := hfk _ (by rw [hc.1]; exact hc.2)
      have ha : ((a % 100).toNat : Int) = a % 100 := Int.toNat_of_nonneg (Int.emod_nonneg a (by decide))
      rw [ha, hc.1] at hv2
      rw [hc.1] at he0 h5 hfl
      have hcl := mv_cl_at _ h5
      obtain ⟨pl, hpl⟩ := mv_pool hg
      have hgo : W p l e R s m args below meth cd H locs cells slots Q (F0 m (pc + 3) lsr (v :: q1)) → W p l e R s m args below meth cd H locs cells slots Q (F0 m pc lsr (.ref (ι ob) :: q1)) := fun kk => by
        match pl, hpl with
        | [q], hpl =>
          rcases (Bool.or_eq_true _ _).mp hpl with h9 | h9
          · exact va_get hx hb (fun w hw9 => hF.1 w hw9 args) (mv_uw _ h5) hown hF.2.2.1 hP _ he0 hcl (a % 100).toNat hc.2 (hF.1 _ (mv_G_in (mv_at_in h9) rfl) _) (fun x hx9 => by rw [mv_cT1 _ h5] at hx9; exact hx9) hv1 hd kk
          · exact va_getN hx hb (fun w hw9 => hF.1 w hw9 args) (mv_uw _ h5) hown hF.2.2.1 hP _ he0 hcl (a % 100).toNat hc.2 (va_Nw.use rfl (hF.2.1 _ (mv_at_in h9) rfl)) (fun x hx9 => by rw [mv_cT1 _ h5] at hx9; exact hx9) hv1 hd kk
        | [], hpl => cases hpl
        | _ :: _ :: _, hpl => cases hpl
      unfold mv_rf at hv2
      split at hs
      · rename_i ht
        rw [if_pos ht] at hv2
        cases hs
        subst hv2
        have := K H locs ι lsr (.int (Int32.ofInt ((h ob).2.2 (a % 100))) :: q1) ⟨ws, hP, hD, hS, hw, hl, ⟨rfl, hst1⟩⟩ (fun _ _ _ => rfl)
        exact hgo (by simpa only [Nat.sub_self, Nat.add_zero] using this)
      · rename_i ht
        rw [if_neg ht] at hv2
        split at hs
        · rename_i hz
          cases hs
          rcases hv2 with ⟨h7, h8, rfl⟩ | ⟨h7, -⟩
          · have := K H locs ι lsr (.ref (ι ((h ob).2.2 (a % 100))) :: q1) ⟨ws, hP, hD, hS, hw, hl, ⟨⟨h7, h8, rfl⟩, hst1⟩⟩ (fun _ _ _ => rfl)
            exact hgo (by simpa only [Nat.sub_self, Nat.add_zero] using this)
          · omega
        · cases hs
    · cases hs
  · cases hs
theorem mv_w_putfield {c c' : mv_C} {h' : mv_H} {pc' : Nat} {ls' st' : List mv_V} {k : Nat} (X : mv_Cx p l m args meth cd y D bs base L xs s) (hg : mv_get (mv_m y).1 pc = some (.putfield k, a)) (hs : mv_step ((L : Int), fun j => (xs j.toNat).toInt) pc (.putfield k) a ls st c h = some (pc', ls', st', c', h'))
    (rel : mv_Rl D s bs base ι c.1 h H locs (mv_m y).2.2.1 lsr str ls st) (hcs : cells + (c'.2.1 - c.2.1) ≤ R.cells) (hss : slots + (c'.2.2 - c.2.2) ≤ R.slots)
    (K : ∀ (H1 : Heap) (locs1 : List Loc) (ι1 : Int → Nat) (lsr1 : Array Slot) (str1 : List Value), mv_Rl D s bs base ι1 c'.1 h' H1 locs1 (mv_m y).2.2.1 lsr1 str1 ls' st' → (∀ j : Int, 0 ≤ j → j < c.1 → ι1 j = ι j) → W p l e R s m args below meth cd H1 locs1 (cells + (c'.2.1 - c.2.1)) (slots + (c'.2.2 - c.2.2)) Q (F0 m pc' lsr1 str1)) : W p l e R s m args below meth cd H locs cells slots Q (F0 m pc lsr str) := by
  obtain ⟨hx, hb, hml, hret, hlk, hown, hnm, hxt, hst0, hF⟩ := id X
  obtain ⟨ws, hP, hD, hS, hw, hl, hst⟩ := rel
  have hd := mv_dec hg
  simp only [mv_step] at hs
  split at hs
  · rename_i v ob r
    obtain ⟨x, q1, rfl, hxv, hst1⟩ := mv_rs_c hst
    obtain ⟨q2, rfl, ho0, ho1, hst2⟩ := mv_rs_r hst1
    split at hs
    · rename_i hc
      cases hs
      obtain ⟨hc1, hc2, hc3⟩ := hc
      obtain ⟨e0, he0, hro⟩ := mv_w_at hw ho0 ho1
      obtain ⟨h5, fs, rfl, hfl, hfk⟩ := mv_ro_c hro (k := (a % 100).toNat) (by rw [hc1]; exact hc2)
      have ha : ((a % 100).toNat : Int) = a % 100 := Int.toNat_of_nonneg (Int.emod_nonneg a (by decide))
      rw [hc1] at h5
      have hcl := mv_cl_at _ h5
      obtain ⟨pl, hpl⟩ := mv_pool hg
      obtain ⟨htq, hft⟩ := mv_tq _ h5 _ hc2
      have hvx : narrow (mv_ty (a / 100).toNat (a % 100).toNat) x = x ∧ fits (mv_ty (a / 100).toNat (a % 100).toNat) x = true ∧ mv_rf ι c.1 (mv_ft (a / 100).toNat (a % 100).toNat) v.2 x := by
        rcases hft with ⟨f1, f2⟩ | ⟨f1, f2⟩
        · rw [f1] at hc3
          rw [mv_v0 hc3] at hxv
          cases hxv
          rw [f2]
          exact ⟨rfl, rfl, by unfold mv_rf; rw [if_pos f1]⟩
        · rw [f1] at hc3
          rw [mv_v2 hc3] at hxv
          obtain ⟨g1, g2, rfl⟩ := hxv
          obtain ⟨g3, g4, -⟩ := mv_isR_n f2 (.ref (ι v.2)) (Or.inl ⟨_, rfl⟩)
          exact ⟨g3, g4, by unfold mv_rf; rw [if_neg (by rw [f1]; decide)]; exact Or.inl ⟨g1, g2, rfl⟩⟩
      obtain ⟨hv1, hv2, hv3⟩ := hvx
      have hro' : mv_ro s ι c.1 ((h ob).1, (h ob).2.1, mv_up (h ob).2.2 (a % 100) v.2) (.inr ((a / 100).toNat, fs.set (a % 100).toNat x)) := by
        refine Or.inl ⟨by show (h ob).1 < 5; rw [hc1]; exact h5, fs.set (a % 100).toNat x, by show _ = Sum.inr ((h ob).1, _); rw [hc1], by rw [List.length_set]; exact hfl, fun j hj => ?_⟩
        show ∃ v9, (fs.set (a % 100).toNat x)[j]? = some v9 ∧ mv_rf ι c.1 (mv_ft (h ob).1 j) (mv_up (h ob).2.2 (a % 100) v.2 j) v9
        have hj' : j < mv_fn (h ob).1 := hj
        by_cases hjk : j = (a % 100).toNat
        · subst hjk
          refine ⟨x, List.getElem?_set_self (by rw [hfl]; exact hj'), ?_⟩
          unfold mv_up
          rw [if_pos ha, hc1]; exact hv3
        · obtain ⟨v9, w1, w2⟩ := hfk j hj'
          refine ⟨v9, by rw [List.getElem?_set_ne (fun z => hjk z.symm)]; exact w1, ?_⟩
          unfold mv_up
          rw [if_neg (by omega)]; exact w2
      rw [hc1] at he0 hfl
      have hw' := mv_w_set hw ho0 ho1 hro'
      have hgo : ∀ (H1 : Heap) (locs1 : List Loc), va_P D mv_cl (ws.set ob.toNat (ι ob, .inr ((a / 100).toNat, fs.set (a % 100).toNat x))) H1 → va_D (mv_A base) (ws.set ob.toNat (ι ob, .inr ((a / 100).toNat, fs.set (a % 100).toNat x))) → va_S (mv_A base) s.heap H1 locs1 → W p l e R s m args below meth cd H1 locs1 cells slots Q (F0 m (pc + 3) lsr q2) := fun H1 locs1 hP1 hD1 hS1 => by
        have := K H1 locs1 ι lsr _ ⟨_, hP1, hD1, hS1, hw', hl, hst2⟩ (fun _ _ _ => rfl)
        simpa only [Nat.sub_self, Nat.add_zero] using this
      match pl, hpl with
      | [q], hpl =>
        obtain ⟨h9, h10⟩ := (Bool.and_eq_true _ _).mp hpl
        rcases (Bool.or_eq_true _ _).mp h10 with h11 | h11
        · exact va_put hx hb (fun w hw9 => hF.1 w hw9 args) (mv_uw _ h5) (mv_ty (a / 100).toNat) (fun k hk => (mv_tq _ h5 k hk).1) (mv_nq _ h5) hown hF.2.2.1 hP hD hS _ he0 hcl (a % 100).toNat hc2 (hF.1 _ (mv_G_in (mv_at_in h9) rfl) _) (fun x hx9 => by rw [mv_cT1 _ h5] at hx9; exact hx9) (beq_iff_eq.mp h11) htq hv1 hv2 (by rw [hfl]; exact hc2) hd hgo
        · obtain ⟨h12, h13⟩ := (Bool.and_eq_true _ _).mp h11
          have h12 := of_decide_eq_true h12
          have h13 := of_decide_eq_true h13
          cases hfin : (mv_cT (a / 100).toNat (a % 100).toNat).2.2.2 with
          | false => exact va_put hx hb (fun w hw9 => hF.1 w hw9 args) (mv_uw _ h5) (mv_ty (a / 100).toNat) (fun k hk => (mv_tq _ h5 k hk).1) (mv_nq _ h5) hown hF.2.2.1 hP hD hS _ he0 hcl (a % 100).toNat hc2 (hF.1 _ (mv_G_in (mv_at_in h9) rfl) _) (fun x hx9 => by rw [mv_cT1 _ h5] at hx9; exact hx9) hfin htq hv1 hv2 (by rw [hfl]; exact hc2) hd hgo
          | true => exact va_putF hx hb (fun w hw9 => hF.1 w hw9 args) (mv_uw _ h5) (mv_ty (a / 100).toNat) (fun k hk => (mv_tq _ h5 k hk).1) (mv_nq _ h5) hown hF.2.2.1 hP hD hS _ he0 hcl (a % 100).toNat hc2 (hF.1 _ (mv_G_in (mv_at_in h9) rfl) _) (fun x hx9 => by rw [mv_cT1 _ h5] at hx9; exact hx9) hfin (hnm h12) (by rw [mv_cT1 _ h5]; exact h13) htq hv1 hv2 (by rw [hfl]; exact hc2) hd hgo
      | [], hpl => cases hpl
      | _ :: _ :: _, hpl => cases hpl
    · cases hs
  · cases hs
theorem mv_w_caload {c c' : mv_C} {h' : mv_H} {pc' : Nat} {ls' st' : List mv_V}  (X : mv_Cx p l m args meth cd y D bs base L xs s) (hg : mv_get (mv_m y).1 pc = some (.caload, a)) (hs : mv_step ((L : Int), fun j => (xs j.toNat).toInt) pc (.caload) a ls st c h = some (pc', ls', st', c', h'))
    (rel : mv_Rl D s bs base ι c.1 h H locs (mv_m y).2.2.1 lsr str ls st) (hcs : cells + (c'.2.1 - c.2.1) ≤ R.cells) (hss : slots + (c'.2.2 - c.2.2) ≤ R.slots)
    (K : ∀ (H1 : Heap) (locs1 : List Loc) (ι1 : Int → Nat) (lsr1 : Array Slot) (str1 : List Value), mv_Rl D s bs base ι1 c'.1 h' H1 locs1 (mv_m y).2.2.1 lsr1 str1 ls' st' → (∀ j : Int, 0 ≤ j → j < c.1 → ι1 j = ι j) → W p l e R s m args below meth cd H1 locs1 (cells + (c'.2.1 - c.2.1)) (slots + (c'.2.2 - c.2.2)) Q (F0 m pc' lsr1 str1)) : W p l e R s m args below meth cd H locs cells slots Q (F0 m pc lsr str) := by
  obtain ⟨hx, hb, hml, hret, hlk, hown, hnm, hxt, hst0, hF⟩ := id X
  obtain ⟨ws, hP, hD, hS, hw, hl, hst⟩ := rel
  have hd := mv_dec hg
  simp only [mv_step] at hs
  split at hs
  · rename_i j ob r
    obtain ⟨q1, rfl, hst1⟩ := mv_rs_i hst
    obtain ⟨q2, rfl, ho0, ho1, hst2⟩ := mv_rs_r hst1
    split at hs
    · rename_i hc
      cases hs
      obtain ⟨hc1, hc2, hc3⟩ := hc
      obtain ⟨e0, he0, hro⟩ := mv_w_at hw ho0 ho1
      obtain ⟨-, cA, N, x, rfl, hN, hN2, hA1, hA2, hrc⟩ := mv_ro_a hro (by omega)
      obtain ⟨g, rfl, hgf⟩ := mv_rc_i hrc (by omega)
      rw [hN] at hc3
      have hjn : ((j.toNat : Nat) : Int) = j := Int.toNat_of_nonneg hc2
      rw [hc1] at hA1 hA2
      refine va_cald hx hb (mv_K1 hF.2.2.1 hA1 hA2) hP _ 0 he0 rfl (nu_in hc2 hc3 (by omega)) hd ?_
      rw [nu_cl hc2 (by omega), hgf j.toNat (by omega), hjn]
      have := K H locs ι lsr (.int (Int32.ofInt ((h ob).2.2 j)) :: q2) ⟨ws, hP, hD, hS, hw, hl, ⟨rfl, hst2⟩⟩ (fun _ _ _ => rfl)
      simpa only [Nat.sub_self, Nat.add_zero] using this
    · cases hs
  · cases hs
theorem mv_w_baload {c c' : mv_C} {h' : mv_H} {pc' : Nat} {ls' st' : List mv_V}  (X : mv_Cx p l m args meth cd y D bs base L xs s) (hg : mv_get (mv_m y).1 pc = some (.baload, a)) (hs : mv_step ((L : Int), fun j => (xs j.toNat).toInt) pc (.baload) a ls st c h = some (pc', ls', st', c', h'))
    (rel : mv_Rl D s bs base ι c.1 h H locs (mv_m y).2.2.1 lsr str ls st) (hcs : cells + (c'.2.1 - c.2.1) ≤ R.cells) (hss : slots + (c'.2.2 - c.2.2) ≤ R.slots)
    (K : ∀ (H1 : Heap) (locs1 : List Loc) (ι1 : Int → Nat) (lsr1 : Array Slot) (str1 : List Value), mv_Rl D s bs base ι1 c'.1 h' H1 locs1 (mv_m y).2.2.1 lsr1 str1 ls' st' → (∀ j : Int, 0 ≤ j → j < c.1 → ι1 j = ι j) → W p l e R s m args below meth cd H1 locs1 (cells + (c'.2.1 - c.2.1)) (slots + (c'.2.2 - c.2.2)) Q (F0 m pc' lsr1 str1)) : W p l e R s m args below meth cd H locs cells slots Q (F0 m pc lsr str) := by
  obtain ⟨hx, hb, hml, hret, hlk, hown, hnm, hxt, hst0, hF⟩ := id X
  obtain ⟨ws, hP, hD, hS, hw, hl, hst⟩ := rel
  have hd := mv_dec hg
  simp only [mv_step] at hs
  split at hs
  · rename_i j ob r
    obtain ⟨q1, rfl, hst1⟩ := mv_rs_i hst
    obtain ⟨q2, rfl, ho0, ho1, hst2⟩ := mv_rs_r hst1
    split at hs
    · rename_i hc
      cases hs
      obtain ⟨hc1, hc2, hc3⟩ := hc
      obtain ⟨e0, he0, hro⟩ := mv_w_at hw ho0 ho1
      obtain ⟨-, cA, N, x, rfl, hN, hN2, hA1, hA2, hrc⟩ := mv_ro_a hro (by omega)
      obtain ⟨g, rfl, hgf⟩ := mv_rc_i hrc (by omega)
      rw [hN] at hc3
      have hjn : ((j.toNat : Nat) : Int) = j := Int.toNat_of_nonneg hc2
      rw [hc1] at hA1 hA2
      refine va_zald hx hb (mv_K1 hF.2.2.1 hA1 hA2) hP _ 0 he0 rfl (nu_in hc2 hc3 (by omega)) hd ?_
      rw [nu_cl hc2 (by omega), hgf j.toNat (by omega), hjn]
      have := K H locs ι lsr (.int (Int32.ofInt ((h ob).2.2 j)) :: q2) ⟨ws, hP, hD, hS, hw, hl, ⟨rfl, hst2⟩⟩ (fun _ _ _ => rfl)
      simpa only [Nat.sub_self, Nat.add_zero] using this
    · cases hs
  · cases hs
theorem mv_w_laload {c c' : mv_C} {h' : mv_H} {pc' : Nat} {ls' st' : List mv_V}  (X : mv_Cx p l m args meth cd y D bs base L xs s) (hg : mv_get (mv_m y).1 pc = some (.laload, a)) (hs : mv_step ((L : Int), fun j => (xs j.toNat).toInt) pc (.laload) a ls st c h = some (pc', ls', st', c', h'))
    (rel : mv_Rl D s bs base ι c.1 h H locs (mv_m y).2.2.1 lsr str ls st) (hcs : cells + (c'.2.1 - c.2.1) ≤ R.cells) (hss : slots + (c'.2.2 - c.2.2) ≤ R.slots)
    (K : ∀ (H1 : Heap) (locs1 : List Loc) (ι1 : Int → Nat) (lsr1 : Array Slot) (str1 : List Value), mv_Rl D s bs base ι1 c'.1 h' H1 locs1 (mv_m y).2.2.1 lsr1 str1 ls' st' → (∀ j : Int, 0 ≤ j → j < c.1 → ι1 j = ι j) → W p l e R s m args below meth cd H1 locs1 (cells + (c'.2.1 - c.2.1)) (slots + (c'.2.2 - c.2.2)) Q (F0 m pc' lsr1 str1)) : W p l e R s m args below meth cd H locs cells slots Q (F0 m pc lsr str) := by
  obtain ⟨hx, hb, hml, hret, hlk, hown, hnm, hxt, hst0, hF⟩ := id X
  obtain ⟨ws, hP, hD, hS, hw, hl, hst⟩ := rel
  have hd := mv_dec hg
  simp only [mv_step] at hs
  split at hs
  · rename_i j ob r
    obtain ⟨q1, rfl, hst1⟩ := mv_rs_i hst
    obtain ⟨q2, rfl, ho0, ho1, hst2⟩ := mv_rs_r hst1
    split at hs
    · rename_i hc
      cases hs
      obtain ⟨hc1, hc2, hc3⟩ := hc
      obtain ⟨e0, he0, hro⟩ := mv_w_at hw ho0 ho1
      obtain ⟨-, cA, N, x, rfl, hN, hN2, hA1, hA2, hrc⟩ := mv_ro_a hro (by omega)
      obtain ⟨g, rfl, hgf⟩ := mv_rc_j hrc (by omega)
      rw [hN] at hc3
      have hjn : ((j.toNat : Nat) : Int) = j := Int.toNat_of_nonneg hc2
      rw [hc1] at hA1 hA2
      refine va_lald hx hb (mv_K1 hF.2.2.1 hA1 hA2) hP _ 0 he0 rfl (nu_in hc2 hc3 (by omega)) hd ?_
      rw [nu_cl hc2 (by omega), hgf j.toNat (by omega), hjn]
      have := K H locs ι lsr (.long (Int64.ofInt ((h ob).2.2 j)) :: q2) ⟨ws, hP, hD, hS, hw, hl, ⟨rfl, hst2⟩⟩ (fun _ _ _ => rfl)
      simpa only [Nat.sub_self, Nat.add_zero] using this
    · cases hs
  · cases hs
theorem mv_w_iaload {c c' : mv_C} {h' : mv_H} {pc' : Nat} {ls' st' : List mv_V} (hLs : L < 2147483648) (X : mv_Cx p l m args meth cd y D bs base L xs s) (hg : mv_get (mv_m y).1 pc = some (.iaload, a)) (hs : mv_step ((L : Int), fun j => (xs j.toNat).toInt) pc (.iaload) a ls st c h = some (pc', ls', st', c', h'))
    (rel : mv_Rl D s bs base ι c.1 h H locs (mv_m y).2.2.1 lsr str ls st) (hcs : cells + (c'.2.1 - c.2.1) ≤ R.cells) (hss : slots + (c'.2.2 - c.2.2) ≤ R.slots)
    (K : ∀ (H1 : Heap) (locs1 : List Loc) (ι1 : Int → Nat) (lsr1 : Array Slot) (str1 : List Value), mv_Rl D s bs base ι1 c'.1 h' H1 locs1 (mv_m y).2.2.1 lsr1 str1 ls' st' → (∀ j : Int, 0 ≤ j → j < c.1 → ι1 j = ι j) → W p l e R s m args below meth cd H1 locs1 (cells + (c'.2.1 - c.2.1)) (slots + (c'.2.2 - c.2.2)) Q (F0 m pc' lsr1 str1)) : W p l e R s m args below meth cd H locs cells slots Q (F0 m pc lsr str) := by
  obtain ⟨hx, hb, hml, hret, hlk, hown, hnm, hxt, hst0, hF⟩ := id X
  obtain ⟨ws, hP, hD, hS, hw, hl, hst⟩ := rel
  have hd := mv_dec hg
  simp only [mv_step] at hs
  split at hs
  · rename_i j ob r
    obtain ⟨q1, rfl, hst1⟩ := mv_rs_i hst
    obtain ⟨q2, rfl, ho0, ho1, hst2⟩ := mv_rs_r hst1
    split at hs
    · rename_i hc
      cases hs
      obtain ⟨hc1, hc2, hc3⟩ := hc
      obtain ⟨e0, he0, hro⟩ := mv_w_at hw ho0 ho1
      obtain ⟨-, cA, N, x, rfl, hN, hN2, hA1, hA2, hrc⟩ := mv_ro_a hro (by omega)
      obtain ⟨g, rfl, hgf⟩ := mv_rc_i hrc (by omega)
      rw [hN] at hc3
      have hjn : ((j.toNat : Nat) : Int) = j := Int.toNat_of_nonneg hc2
      rw [hc1] at hA1 hA2
      refine va_iald hx hb (mv_K1 hF.2.2.1 hA1 hA2) hP _ 0 he0 rfl (nu_in hc2 hc3 (by omega)) hd ?_
      rw [nu_cl hc2 (by omega), hgf j.toNat (by omega), hjn]
      have := K H locs ι lsr (.int (Int32.ofInt ((h ob).2.2 j)) :: q2) ⟨ws, hP, hD, hS, hw, hl, ⟨rfl, hst2⟩⟩ (fun _ _ _ => rfl)
      simpa only [Nat.sub_self, Nat.add_zero] using this
    · cases hs
  · rename_i j z r
    obtain ⟨q1, rfl, hst1⟩ := mv_rs_i hst
    obtain ⟨q2, rfl, hst2⟩ := mv_rs_s hst1
    split at hs
    · rename_i hc
      cases hs
      obtain ⟨hc2, hc3⟩ := hc
      have hc3 : j < (L : Int) := hc3
      refine va_sld hx hb hF.2.2.2.1.2.2 (Nat.lt_of_lt_of_le hF.2.2.2.1.2.1 hF.2.2.2.1.1) (Nat.not_le.mpr hF.2.2.2.1.2.1 : ¬ mv_A base bs) hS (nu_in hc2 hc3 hLs) hd ?_
      rw [nu_cl hc2 (by omega)]
      have := K H locs ι lsr (.int (xs j.toNat) :: q2) ⟨ws, hP, hD, hS, hw, hl, ⟨(by show Value.int _ = Value.int (Int32.ofInt (xs j.toNat).toInt); rw [Int32.ofInt_toInt]), hst2⟩⟩ (fun _ _ _ => rfl)
      simpa only [Nat.sub_self, Nat.add_zero] using this
    · cases hs
  · cases hs
theorem mv_w_aaload {c c' : mv_C} {h' : mv_H} {pc' : Nat} {ls' st' : List mv_V}  (X : mv_Cx p l m args meth cd y D bs base L xs s) (hg : mv_get (mv_m y).1 pc = some (.aaload, a)) (hs : mv_step ((L : Int), fun j => (xs j.toNat).toInt) pc (.aaload) a ls st c h = some (pc', ls', st', c', h'))
    (rel : mv_Rl D s bs base ι c.1 h H locs (mv_m y).2.2.1 lsr str ls st) (hcs : cells + (c'.2.1 - c.2.1) ≤ R.cells) (hss : slots + (c'.2.2 - c.2.2) ≤ R.slots)
    (K : ∀ (H1 : Heap) (locs1 : List Loc) (ι1 : Int → Nat) (lsr1 : Array Slot) (str1 : List Value), mv_Rl D s bs base ι1 c'.1 h' H1 locs1 (mv_m y).2.2.1 lsr1 str1 ls' st' → (∀ j : Int, 0 ≤ j → j < c.1 → ι1 j = ι j) → W p l e R s m args below meth cd H1 locs1 (cells + (c'.2.1 - c.2.1)) (slots + (c'.2.2 - c.2.2)) Q (F0 m pc' lsr1 str1)) : W p l e R s m args below meth cd H locs cells slots Q (F0 m pc lsr str) := by
  obtain ⟨hx, hb, hml, hret, hlk, hown, hnm, hxt, hst0, hF⟩ := id X
  obtain ⟨ws, hP, hD, hS, hw, hl, hst⟩ := rel
  have hd := mv_dec hg
  simp only [mv_step] at hs
  split at hs
  · rename_i j ob r
    obtain ⟨q1, rfl, hst1⟩ := mv_rs_i hst
    obtain ⟨q2, rfl, ho0, ho1, hst2⟩ := mv_rs_r hst1
    split at hs
    · rename_i hc
      cases hs
      obtain ⟨hc1, hc2, hc3, hc4⟩ := hc
      obtain ⟨e0, he0, hro⟩ := mv_w_at hw ho0 ho1
      obtain ⟨-, cA, N, x, rfl, hN, hN2, hA1, hA2, hrc⟩ := mv_ro_a hro (by omega)
      obtain ⟨g, rfl, hgf⟩ := mv_rc_r hrc (by omega)
      rw [hN] at hc3
      have hjn : ((j.toNat : Nat) : Int) = j := Int.toNat_of_nonneg hc2
      have hgo : W p l e R s m args below meth cd H locs cells slots Q (F0 m (pc + 1) lsr (va_rf (g (Int32.ofInt j).toNatClampNeg) :: q2)) := by
        rw [nu_cl hc2 (by omega)]
        rcases hgf j.toNat (by omega) with ⟨g1, g2, g3⟩ | ⟨g1, -⟩
        · rw [hjn] at g1 g2 g3
          rw [g3]
          have := K H locs ι lsr (va_rf (some (ι ((h ob).2.2 j))) :: q2) ⟨ws, hP, hD, hS, hw, hl, ⟨⟨g1, g2, rfl⟩, hst2⟩⟩ (fun _ _ _ => rfl)
          simpa only [Nat.sub_self, Nat.add_zero] using this
        · rw [hjn] at g1; omega
      rcases hc1 with hc1 | hc1
      · rw [hc1] at hA1 hA2
        exact va_aldq hx hb (mv_K1 hF.2.2.1 hA1 hA2) hP _ 0 he0 rfl (nu_in hc2 hc3 (by omega)) hd hgo
      · rw [hc1] at hA1 hA2
        exact va_aldq hx hb (mv_K1 hF.2.2.1 hA1 hA2) hP _ 0 he0 rfl (nu_in hc2 hc3 (by omega)) hd hgo
    · cases hs
  · cases hs
theorem mv_w_arraylength {c c' : mv_C} {h' : mv_H} {pc' : Nat} {ls' st' : List mv_V}  (X : mv_Cx p l m args meth cd y D bs base L xs s) (hg : mv_get (mv_m y).1 pc = some (.arraylength, a)) (hs : mv_step ((L : Int), fun j => (xs j.toNat).toInt) pc (.arraylength) a ls st c h = some (pc', ls', st', c', h'))
    (rel : mv_Rl D s bs base ι c.1 h H locs (mv_m y).2.2.1 lsr str ls st) (hcs : cells + (c'.2.1 - c.2.1) ≤ R.cells) (hss : slots + (c'.2.2 - c.2.2) ≤ R.slots)
    (K : ∀ (H1 : Heap) (locs1 : List Loc) (ι1 : Int → Nat) (lsr1 : Array Slot) (str1 : List Value), mv_Rl D s bs base ι1 c'.1 h' H1 locs1 (mv_m y).2.2.1 lsr1 str1 ls' st' → (∀ j : Int, 0 ≤ j → j < c.1 → ι1 j = ι j) → W p l e R s m args below meth cd H1 locs1 (cells + (c'.2.1 - c.2.1)) (slots + (c'.2.2 - c.2.2)) Q (F0 m pc' lsr1 str1)) : W p l e R s m args below meth cd H locs cells slots Q (F0 m pc lsr str) := by
  obtain ⟨hx, hb, hml, hret, hlk, hown, hnm, hxt, hst0, hF⟩ := id X
  obtain ⟨ws, hP, hD, hS, hw, hl, hst⟩ := rel
  have hd := mv_dec hg
  simp only [mv_step] at hs
  split at hs
  · rename_i ob r
    obtain ⟨q2, rfl, ho0, ho1, hst2⟩ := mv_rs_r hst
    split at hs
    · rename_i hc
      cases hs
      obtain ⟨e0, he0, hro⟩ := mv_w_at hw ho0 ho1
      obtain ⟨-, cA, N, x, rfl, hN, hN2, hA1, hA2, hrc⟩ := mv_ro_a hro hc
      refine va_alen hx hb (mv_K1 hF.2.2.1 hA1 hA2) hP _ 0 he0 rfl rfl hd ?_
      have := K H locs ι lsr (.int (Int32.ofNat x.1) :: q2) ⟨ws, hP, hD, hS, hw, hl, ⟨(by show Value.int _ = Value.int (Int32.ofInt (h ob).2.1); rw [hrc.1, hN]; rfl), hst2⟩⟩ (fun _ _ _ => rfl)
      simpa only [Nat.sub_self, Nat.add_zero] using this
    · cases hs
  · rename_i z r
    obtain ⟨q2, rfl, hst2⟩ := mv_rs_s hst
    cases hs
    refine va_slen hx hb hF.2.2.2.1.2.2 (Nat.lt_of_lt_of_le hF.2.2.2.1.2.1 hF.2.2.2.1.1) (Nat.not_le.mpr hF.2.2.2.1.2.1 : ¬ mv_A base bs) hS hd ?_
    have := K H locs ι lsr (.int (Int32.ofNat L) :: q2) ⟨ws, hP, hD, hS, hw, hl, ⟨rfl, hst2⟩⟩ (fun _ _ _ => rfl)
    simpa only [Nat.sub_self, Nat.add_zero] using this
  · cases hs
theorem mv_w_iastore {c c' : mv_C} {h' : mv_H} {pc' : Nat} {ls' st' : List mv_V}  (X : mv_Cx p l m args meth cd y D bs base L xs s) (hg : mv_get (mv_m y).1 pc = some (.iastore, a)) (hs : mv_step ((L : Int), fun j => (xs j.toNat).toInt) pc (.iastore) a ls st c h = some (pc', ls', st', c', h'))
    (rel : mv_Rl D s bs base ι c.1 h H locs (mv_m y).2.2.1 lsr str ls st) (hcs : cells + (c'.2.1 - c.2.1) ≤ R.cells) (hss : slots + (c'.2.2 - c.2.2) ≤ R.slots)
    (K : ∀ (H1 : Heap) (locs1 : List Loc) (ι1 : Int → Nat) (lsr1 : Array Slot) (str1 : List Value), mv_Rl D s bs base ι1 c'.1 h' H1 locs1 (mv_m y).2.2.1 lsr1 str1 ls' st' → (∀ j : Int, 0 ≤ j → j < c.1 → ι1 j = ι j) → W p l e R s m args below meth cd H1 locs1 (cells + (c'.2.1 - c.2.1)) (slots + (c'.2.2 - c.2.2)) Q (F0 m pc' lsr1 str1)) : W p l e R s m args below meth cd H locs cells slots Q (F0 m pc lsr str) := by
  obtain ⟨hx, hb, hml, hret, hlk, hown, hnm, hxt, hst0, hF⟩ := id X
  obtain ⟨ws, hP, hD, hS, hw, hl, hst⟩ := rel
  have hd := mv_dec hg
  simp only [mv_step] at hs
  split at hs
  · rename_i z j ob r
    obtain ⟨q0, rfl, hst0'⟩ := mv_rs_i hst
    obtain ⟨q1, rfl, hst1⟩ := mv_rs_i hst0'
    obtain ⟨q2, rfl, ho0, ho1, hst2⟩ := mv_rs_r hst1
    split at hs
    · rename_i hc
      cases hs
      obtain ⟨hc1, hc2, hc3⟩ := hc
      obtain ⟨e0, he0, hro⟩ := mv_w_at hw ho0 ho1
      obtain ⟨h15, cA, N, x, rfl, hN, hN2, hA1, hA2, hrc⟩ := mv_ro_a hro (by omega)
      obtain ⟨g, rfl, hgf⟩ := mv_rc_i hrc (by omega)
      have hjN : j < (N : Int) := by rw [hN] at hc3; exact hc3
      have hw' := mv_w_set (o := ((h ob).1, (h ob).2.1, mv_up (h ob).2.2 j z)) (e := .inl (cA, N, (.inl (upd g j.toNat (Int32.ofInt z))))) hw ho0 ho1 (Or.inr ⟨by show 10 ≤ (h ob).1; omega, h15, cA, N, _, rfl, hN, hN2, hA1, hA2, ⟨rfl, Or.inl ⟨by show (h ob).1 < 13; omega, _, rfl, mv_upd_i hgf hc2 rfl⟩⟩⟩)
      rw [hc1] at hA1 hA2
      refine va_iast hx hb (mv_K1 hF.2.2.1 hA1 hA2) hP hD hS _ 0 he0 rfl (nu_in hc2 hjN (by omega)) hd (fun H1 locs1 hP1 hD1 hS1 => ?_)
      rw [nu_cl hc2 (by omega)] at hP1 hD1
      have := K H1 locs1 ι lsr _ ⟨_, hP1, hD1, hS1, hw', hl, hst2⟩ (fun _ _ _ => rfl)
      simpa only [Nat.sub_self, Nat.add_zero] using this
    · cases hs
  · cases hs
theorem mv_w_castore {c c' : mv_C} {h' : mv_H} {pc' : Nat} {ls' st' : List mv_V}  (X : mv_Cx p l m args meth cd y D bs base L xs s) (hg : mv_get (mv_m y).1 pc = some (.castore, a)) (hs : mv_step ((L : Int), fun j => (xs j.toNat).toInt) pc (.castore) a ls st c h = some (pc', ls', st', c', h'))
    (rel : mv_Rl D s bs base ι c.1 h H locs (mv_m y).2.2.1 lsr str ls st) (hcs : cells + (c'.2.1 - c.2.1) ≤ R.cells) (hss : slots + (c'.2.2 - c.2.2) ≤ R.slots)
    (K : ∀ (H1 : Heap) (locs1 : List Loc) (ι1 : Int → Nat) (lsr1 : Array Slot) (str1 : List Value), mv_Rl D s bs base ι1 c'.1 h' H1 locs1 (mv_m y).2.2.1 lsr1 str1 ls' st' → (∀ j : Int, 0 ≤ j → j < c.1 → ι1 j = ι j) → W p l e R s m args below meth cd H1 locs1 (cells + (c'.2.1 - c.2.1)) (slots + (c'.2.2 - c.2.2)) Q (F0 m pc' lsr1 str1)) : W p l e R s m args below meth cd H locs cells slots Q (F0 m pc lsr str) := by
  obtain ⟨hx, hb, hml, hret, hlk, hown, hnm, hxt, hst0, hF⟩ := id X
  obtain ⟨ws, hP, hD, hS, hw, hl, hst⟩ := rel
  have hd := mv_dec hg
  simp only [mv_step] at hs
  split at hs
  · rename_i z j ob r
    obtain ⟨q0, rfl, hst0'⟩ := mv_rs_i hst
    obtain ⟨q1, rfl, hst1⟩ := mv_rs_i hst0'
    obtain ⟨q2, rfl, ho0, ho1, hst2⟩ := mv_rs_r hst1
    split at hs
    · rename_i hc
      cases hs
      obtain ⟨hc1, hc2, hc3, hc4, hc5⟩ := hc
      obtain ⟨e0, he0, hro⟩ := mv_w_at hw ho0 ho1
      obtain ⟨h15, cA, N, x, rfl, hN, hN2, hA1, hA2, hrc⟩ := mv_ro_a hro (by omega)
      obtain ⟨g, rfl, hgf⟩ := mv_rc_i hrc (by omega)
      have hjN : j < (N : Int) := by rw [hN] at hc3; exact hc3
      have hw' := mv_w_set (o := ((h ob).1, (h ob).2.1, mv_up (h ob).2.2 j z)) (e := .inl (cA, N, (.inl (upd g j.toNat (Int32.ofInt z))))) hw ho0 ho1 (Or.inr ⟨by show 10 ≤ (h ob).1; omega, h15, cA, N, _, rfl, hN, hN2, hA1, hA2, ⟨rfl, Or.inl ⟨by show (h ob).1 < 13; omega, _, rfl, mv_upd_i hgf hc2 rfl⟩⟩⟩)
      rw [hc1] at hA1 hA2
      refine va_cast hx hb (mv_K1 hF.2.2.1 hA1 hA2) hP hD hS _ 0 he0 rfl (nu_in hc2 hjN (by omega)) hd (fun H1 locs1 hP1 hD1 hS1 => ?_)
      rw [nu_cl hc2 (by omega), nu_narc hc4 hc5] at hP1 hD1
      have := K H1 locs1 ι lsr _ ⟨_, hP1, hD1, hS1, hw', hl, hst2⟩ (fun _ _ _ => rfl)
      simpa only [Nat.sub_self, Nat.add_zero] using this
    · cases hs
  · cases hs
theorem mv_w_bastore {c c' : mv_C} {h' : mv_H} {pc' : Nat} {ls' st' : List mv_V}  (X : mv_Cx p l m args meth cd y D bs base L xs s) (hg : mv_get (mv_m y).1 pc = some (.bastore, a)) (hs : mv_step ((L : Int), fun j => (xs j.toNat).toInt) pc (.bastore) a ls st c h = some (pc', ls', st', c', h'))
    (rel : mv_Rl D s bs base ι c.1 h H locs (mv_m y).2.2.1 lsr str ls st) (hcs : cells + (c'.2.1 - c.2.1) ≤ R.cells) (hss : slots + (c'.2.2 - c.2.2) ≤ R.slots)
    (K : ∀ (H1 : Heap) (locs1 : List Loc) (ι1 : Int → Nat) (lsr1 : Array Slot) (str1 : List Value), mv_Rl D s bs base ι1 c'.1 h' H1 locs1 (mv_m y).2.2.1 lsr1 str1 ls' st' → (∀ j : Int, 0 ≤ j → j < c.1 → ι1 j = ι j) → W p l e R s m args below meth cd H1 locs1 (cells + (c'.2.1 - c.2.1)) (slots + (c'.2.2 - c.2.2)) Q (F0 m pc' lsr1 str1)) : W p l e R s m args below meth cd H locs cells slots Q (F0 m pc lsr str) := by
  obtain ⟨hx, hb, hml, hret, hlk, hown, hnm, hxt, hst0, hF⟩ := id X
  obtain ⟨ws, hP, hD, hS, hw, hl, hst⟩ := rel
  have hd := mv_dec hg
  simp only [mv_step] at hs
  split at hs
  · rename_i z j ob r
    obtain ⟨q0, rfl, hst0'⟩ := mv_rs_i hst
    obtain ⟨q1, rfl, hst1⟩ := mv_rs_i hst0'
    obtain ⟨q2, rfl, ho0, ho1, hst2⟩ := mv_rs_r hst1
    split at hs
    · rename_i hc
      cases hs
      obtain ⟨hc1, hc2, hc3, hc4⟩ := hc
      obtain ⟨e0, he0, hro⟩ := mv_w_at hw ho0 ho1
      obtain ⟨h15, cA, N, x, rfl, hN, hN2, hA1, hA2, hrc⟩ := mv_ro_a hro (by omega)
      obtain ⟨g, rfl, hgf⟩ := mv_rc_i hrc (by omega)
      have hjN : j < (N : Int) := by rw [hN] at hc3; exact hc3
      have hw' := mv_w_set (o := ((h ob).1, (h ob).2.1, mv_up (h ob).2.2 j z)) (e := .inl (cA, N, (.inl (upd g j.toNat (Int32.ofInt z))))) hw ho0 ho1 (Or.inr ⟨by show 10 ≤ (h ob).1; omega, h15, cA, N, _, rfl, hN, hN2, hA1, hA2, ⟨rfl, Or.inl ⟨by show (h ob).1 < 13; omega, _, rfl, mv_upd_i hgf hc2 rfl⟩⟩⟩)
      rw [hc1] at hA1 hA2
      refine va_zast hx hb (mv_K1 hF.2.2.1 hA1 hA2) hP hD hS _ 0 he0 rfl (nu_in hc2 hjN (by omega)) hd (fun H1 locs1 hP1 hD1 hS1 => ?_)
      rw [nu_cl hc2 (by omega), nu_narz hc4] at hP1 hD1
      have := K H1 locs1 ι lsr _ ⟨_, hP1, hD1, hS1, hw', hl, hst2⟩ (fun _ _ _ => rfl)
      simpa only [Nat.sub_self, Nat.add_zero] using this
    · cases hs
  · cases hs
theorem mv_w_lastore {c c' : mv_C} {h' : mv_H} {pc' : Nat} {ls' st' : List mv_V}  (X : mv_Cx p l m args meth cd y D bs base L xs s) (hg : mv_get (mv_m y).1 pc = some (.lastore, a)) (hs : mv_step ((L : Int), fun j => (xs j.toNat).toInt) pc (.lastore) a ls st c h = some (pc', ls', st', c', h'))
    (rel : mv_Rl D s bs base ι c.1 h H locs (mv_m y).2.2.1 lsr str ls st) (hcs : cells + (c'.2.1 - c.2.1) ≤ R.cells) (hss : slots + (c'.2.2 - c.2.2) ≤ R.slots)
    (K : ∀ (H1 : Heap) (locs1 : List Loc) (ι1 : Int → Nat) (lsr1 : Array Slot) (str1 : List Value), mv_Rl D s bs base ι1 c'.1 h' H1 locs1 (mv_m y).2.2.1 lsr1 str1 ls' st' → (∀ j : Int, 0 ≤ j → j < c.1 → ι1 j = ι j) → W p l e R s m args below meth cd H1 locs1 (cells + (c'.2.1 - c.2.1)) (slots + (c'.2.2 - c.2.2)) Q (F0 m pc' lsr1 str1)) : W p l e R s m args below meth cd H locs cells slots Q (F0 m pc lsr str) := by
  obtain ⟨hx, hb, hml, hret, hlk, hown, hnm, hxt, hst0, hF⟩ := id X
  obtain ⟨ws, hP, hD, hS, hw, hl, hst⟩ := rel
  have hd := mv_dec hg
  simp only [mv_step] at hs
  split at hs
  · rename_i z j ob r
    obtain ⟨q0, rfl, hst0'⟩ := mv_rs_j hst
    obtain ⟨q1, rfl, hst1⟩ := mv_rs_i hst0'
    obtain ⟨q2, rfl, ho0, ho1, hst2⟩ := mv_rs_r hst1
    split at hs
    · rename_i hc
      cases hs
      obtain ⟨hc1, hc2, hc3⟩ := hc
      obtain ⟨e0, he0, hro⟩ := mv_w_at hw ho0 ho1
      obtain ⟨h15, cA, N, x, rfl, hN, hN2, hA1, hA2, hrc⟩ := mv_ro_a hro (by omega)
      obtain ⟨g, rfl, hgf⟩ := mv_rc_j hrc (by omega)
      have hjN : j < (N : Int) := by rw [hN] at hc3; exact hc3
      have hw' := mv_w_set (o := ((h ob).1, (h ob).2.1, mv_up (h ob).2.2 j z)) (e := .inl (cA, N, (.inr (.inl (vp_updL g j.toNat (Int64.ofInt z)))))) hw ho0 ho1 (Or.inr ⟨by show 10 ≤ (h ob).1; omega, h15, cA, N, _, rfl, hN, hN2, hA1, hA2, ⟨rfl, Or.inr (Or.inl ⟨by show (h ob).1 = 13; omega, _, rfl, mv_upd_j hgf hc2 rfl⟩)⟩⟩)
      rw [hc1] at hA1 hA2
      refine va_last hx hb (mv_K1 hF.2.2.1 hA1 hA2) hP hD hS _ 0 he0 rfl (nu_in hc2 hjN (by omega)) hd (fun H1 locs1 hP1 hD1 hS1 => ?_)
      rw [nu_cl hc2 (by omega)] at hP1 hD1
      have := K H1 locs1 ι lsr _ ⟨_, hP1, hD1, hS1, hw', hl, hst2⟩ (fun _ _ _ => rfl)
      simpa only [Nat.sub_self, Nat.add_zero] using this
    · cases hs
  · cases hs
theorem mv_w_aastore {c c' : mv_C} {h' : mv_H} {pc' : Nat} {ls' st' : List mv_V}  (X : mv_Cx p l m args meth cd y D bs base L xs s) (hg : mv_get (mv_m y).1 pc = some (.aastore, a)) (hs : mv_step ((L : Int), fun j => (xs j.toNat).toInt) pc (.aastore) a ls st c h = some (pc', ls', st', c', h'))
    (rel : mv_Rl D s bs base ι c.1 h H locs (mv_m y).2.2.1 lsr str ls st) (hcs : cells + (c'.2.1 - c.2.1) ≤ R.cells) (hss : slots + (c'.2.2 - c.2.2) ≤ R.slots)
    (K : ∀ (H1 : Heap) (locs1 : List Loc) (ι1 : Int → Nat) (lsr1 : Array Slot) (str1 : List Value), mv_Rl D s bs base ι1 c'.1 h' H1 locs1 (mv_m y).2.2.1 lsr1 str1 ls' st' → (∀ j : Int, 0 ≤ j → j < c.1 → ι1 j = ι j) → W p l e R s m args below meth cd H1 locs1 (cells + (c'.2.1 - c.2.1)) (slots + (c'.2.2 - c.2.2)) Q (F0 m pc' lsr1 str1)) : W p l e R s m args below meth cd H locs cells slots Q (F0 m pc lsr str) := by
  obtain ⟨hx, hb, hml, hret, hlk, hown, hnm, hxt, hst0, hF⟩ := id X
  obtain ⟨ws, hP, hD, hS, hw, hl, hst⟩ := rel
  have hd := mv_dec hg
  simp only [mv_step] at hs
  split at hs
  · rename_i z j ob r
    obtain ⟨q0, rfl, hz0, hz1, hst0'⟩ := mv_rs_r hst
    obtain ⟨q1, rfl, hst1⟩ := mv_rs_i hst0'
    obtain ⟨q2, rfl, ho0, ho1, hst2⟩ := mv_rs_r hst1
    split at hs
    · rename_i hc
      cases hs
      obtain ⟨hc1, hc2, hc3⟩ := hc
      obtain ⟨e0, he0, hro⟩ := mv_w_at hw ho0 ho1
      obtain ⟨e9, he9, hro9⟩ := mv_w_at hw hz0 hz1
      have hfz : 0 < mv_fn (h z).1 := by
        rcases hc1 with ⟨-, h1⟩ | ⟨-, h1⟩ <;> rw [h1] <;> decide
      obtain ⟨-, fs9, rfl, -⟩ := mv_ro_c hro9 hfz
      obtain ⟨h15, cA, N, x, rfl, hN, hN2, hA1, hA2, hrc⟩ := mv_ro_a hro (by omega)
      obtain ⟨g, rfl, hgf⟩ := mv_rc_r hrc (by omega)
      have hjN : j < (N : Int) := by rw [hN] at hc3; exact hc3
      have hw' := mv_w_set (o := ((h ob).1, (h ob).2.1, mv_up (h ob).2.2 j z)) (e := .inl (cA, N, .inr (.inr (.inr (.inr (va_up g j.toNat (some (ι z)))))))) hw ho0 ho1 (Or.inr ⟨by show 10 ≤ (h ob).1; omega, h15, cA, N, _, rfl, hN, hN2, hA1, hA2, ⟨rfl, Or.inr (Or.inr ⟨by show 13 < (h ob).1; omega, _, rfl, mv_upd_r hgf hc2 hz0 hz1⟩)⟩⟩)
      have hgo : ∀ (H1 : Heap) (locs1 : List Loc), va_P D mv_cl (ws.set ob.toNat (ι ob, .inl (cA, N, .inr (.inr (.inr (.inr (va_up g (Int32.ofInt j).toNatClampNeg (some (ι z)))))))))  H1 → va_D (mv_A base) (ws.set ob.toNat (ι ob, .inl (cA, N, .inr (.inr (.inr (.inr (va_up g (Int32.ofInt j).toNatClampNeg (some (ι z))))))))) → va_S (mv_A base) s.heap H1 locs1 → W p l e R s m args below meth cd H1 locs1 cells slots Q (F0 m (pc + 1) lsr q2) := fun H1 locs1 hP1 hD1 hS1 => by
        rw [nu_cl hc2 (by omega)] at hP1 hD1
        have := K H1 locs1 ι lsr _ ⟨_, hP1, hD1, hS1, hw', hl, hst2⟩ (fun _ _ _ => rfl)
        simpa only [Nat.sub_self, Nat.add_zero] using this
      rcases hc1 with ⟨hc1, hc9⟩ | ⟨hc1, hc9⟩
      · rw [hc1] at hA1 hA2
        rw [hc9] at he9
        exact va_astq hx hb (mv_K1 hF.2.2.1 hA1 hA2) hP hD hS _ 0 _ 1 (r := (mv_cn 1, mv_cT 1, mv_fn 1)) he0 rfl he9 rfl (nu_in hc2 hjN (by omega)) hd hgo
      · rw [hc1] at hA1 hA2
        rw [hc9] at he9
        exact va_astq hx hb (mv_K1 hF.2.2.1 hA1 hA2) hP hD hS _ 0 _ 2 (r := (mv_cn 2, mv_cT 2, mv_fn 2)) he0 rfl he9 rfl (nu_in hc2 hjN (by omega)) hd hgo
    · cases hs
  · cases hs
theorem mv_w_new {c c' : mv_C} {h' : mv_H} {pc' : Nat} {ls' st' : List mv_V} {k : Nat} (X : mv_Cx p l m args meth cd y D bs base L xs s) (hg : mv_get (mv_m y).1 pc = some (.new k, a)) (hs : mv_step ((L : Int), fun j => (xs j.toNat).toInt) pc (.new k) a ls st c h = some (pc', ls', st', c', h'))
    (rel : mv_Rl D s bs base ι c.1 h H locs (mv_m y).2.2.1 lsr str ls st) (hcs : cells + (c'.2.1 - c.2.1) ≤ R.cells) (hss : slots + (c'.2.2 - c.2.2) ≤ R.slots)
    (K : ∀ (H1 : Heap) (locs1 : List Loc) (ι1 : Int → Nat) (lsr1 : Array Slot) (str1 : List Value), mv_Rl D s bs base ι1 c'.1 h' H1 locs1 (mv_m y).2.2.1 lsr1 str1 ls' st' → (∀ j : Int, 0 ≤ j → j < c.1 → ι1 j = ι j) → W p l e R s m args below meth cd H1 locs1 (cells + (c'.2.1 - c.2.1)) (slots + (c'.2.2 - c.2.2)) Q (F0 m pc' lsr1 str1)) : W p l e R s m args below meth cd H locs cells slots Q (F0 m pc lsr str) := by
  obtain ⟨hx, hb, hml, hret, hlk, hown, hnm, hxt, hst0, hF⟩ := id X
  obtain ⟨ws, hP, hD, hS, hw, hl, hst⟩ := rel
  have hd := mv_dec hg
  simp only [mv_step] at hs
  split at hs
  · rename_i hc
    cases hs
    have h5 : a.toNat < 5 := by omega
    obtain ⟨pl, hpl⟩ := mv_pool hg
    have hlk2 : (Cond.classLink (mv_ow y) k (mv_cn a.toNat)).before args s = true := by
      match pl, hpl with
      | [q], hpl =>
        have hpl : (if a < 0 then _ else mv_at (.classLink (mv_ow y) k (mv_cn a.toNat)) q) = true := hpl
        rw [if_neg (by omega)] at hpl
        exact hF.1 _ (mv_G_in (mv_at_in hpl) rfl) _
      | [], hpl => cases hpl
      | _ :: _ :: _, hpl => cases hpl
    have hA : ∀ q, s.heap.size ≤ q → mv_A base q := fun q hq => Nat.le_trans hF.2.2.2.1.1 hq
    refine va_new (ci := a.toNat) (C := mv_cn a.toNat) (T := mv_cT a.toNat) (N := mv_fn a.toNat) (fs := (List.range (mv_fn a.toNat)).map (fun j => if mv_ft a.toNat j = 0 then Value.int 0 else .null)) hx hb (fun w hw9 => hF.1 w hw9 args) (mv_uw _ h5) (mv_ty a.toNat) (fun k hk => (mv_tq _ h5 k hk).1) hown hlk2 (hF.1 _ (mv_iq _ h5).1 _) (hF.1 _ (mv_iq _ h5).2 _) hF.2.2.1 hP hD hS hA (mv_cl_at _ h5) (fun j hj => ?_) (by have h9 : cells + (c.2.1 + 1 - c.2.1) ≤ R.cells := hcs; omega) (by have h9 : slots + (c.2.2 + mv_fn a.toNat - c.2.2) ≤ R.slots := hss; omega) hd (fun q H1 hP1 hD1 hS1 => ?_)
    · unfold vp_V
      rw [List.getD_eq_getElem?_getD, List.getElem?_map, List.getElem?_range hj]
      show defaultValue _ = if mv_ft a.toNat j = 0 then Value.int 0 else .null
      rcases (mv_tq _ h5 j hj).2 with ⟨f1, f2⟩ | ⟨f1, f2⟩
      · rw [if_pos f1, f2]; rfl
      · rw [if_neg (by rw [f1]; decide)]; exact (mv_isR_n f2 .null (Or.inr rfl)).2.2
    · have hi : ∀ j : Int, 0 ≤ j → j < c.1 → (fun i : Int => if i = (c.1 : Int) then q else ι i) j = ι j := fun j _ hj => if_neg (by omega)
      have hw' := mv_w_push (q := q) (o := (a.toNat, (mv_fn a.toNat : Int), mv_df a.toNat)) (e := .inr (a.toNat, (List.range (mv_fn a.toNat)).map (fun j => if mv_ft a.toNat j = 0 then Value.int 0 else .null))) hw (Or.inl ⟨h5, _, rfl, by rw [List.length_map, List.length_range], fun j hj => ⟨_, by rw [List.getElem?_map, List.getElem?_range hj]; rfl, by
        show mv_rf _ _ (mv_ft a.toNat j) (if mv_ft a.toNat (j : Int).toNat = 0 then 0 else -1) (if mv_ft a.toNat j = 0 then Value.int 0 else .null)
        rw [show (j : Int).toNat = j from rfl]
        unfold mv_rf
        by_cases hz : mv_ft a.toNat j = 0
        · rw [if_pos hz, if_pos hz, if_pos hz]; rfl
        · rw [if_neg hz, if_neg hz, if_neg hz]; exact Or.inr ⟨by decide, rfl⟩⟩⟩)
      have := K H1 locs _ lsr (.ref q :: str) ⟨_, hP1, hD1, hS1, hw', mv_rl_up hi (by omega) hl, ⟨⟨by omega, by show (c.1 : Int) < ((c.1 + 1 : Nat) : Int); omega, by show Value.ref q = Value.ref (if (c.1 : Int) = (c.1 : Int) then q else ι c.1); rw [if_pos rfl]⟩, mv_rs_up hi (by omega) _ _ hst⟩⟩ hi
      simpa only [Nat.add_sub_cancel_left] using this
  · cases hs
theorem mv_w_newarray {c c' : mv_C} {h' : mv_H} {pc' : Nat} {ls' st' : List mv_V} {k : ArrayType} (X : mv_Cx p l m args meth cd y D bs base L xs s) (hg : mv_get (mv_m y).1 pc = some (.newarray k, a)) (hs : mv_step ((L : Int), fun j => (xs j.toNat).toInt) pc (.newarray k) a ls st c h = some (pc', ls', st', c', h'))
    (rel : mv_Rl D s bs base ι c.1 h H locs (mv_m y).2.2.1 lsr str ls st) (hcs : cells + (c'.2.1 - c.2.1) ≤ R.cells) (hss : slots + (c'.2.2 - c.2.2) ≤ R.slots)
    (K : ∀ (H1 : Heap) (locs1 : List Loc) (ι1 : Int → Nat) (lsr1 : Array Slot) (str1 : List Value), mv_Rl D s bs base ι1 c'.1 h' H1 locs1 (mv_m y).2.2.1 lsr1 str1 ls' st' → (∀ j : Int, 0 ≤ j → j < c.1 → ι1 j = ι j) → W p l e R s m args below meth cd H1 locs1 (cells + (c'.2.1 - c.2.1)) (slots + (c'.2.2 - c.2.2)) Q (F0 m pc' lsr1 str1)) : W p l e R s m args below meth cd H locs cells slots Q (F0 m pc lsr str) := by
  obtain ⟨hx, hb, hml, hret, hlk, hown, hnm, hxt, hst0, hF⟩ := id X
  obtain ⟨ws, hP, hD, hS, hw, hl, hst⟩ := rel
  have hd := mv_dec hg
  simp only [mv_step] at hs
  split at hs
  · rename_i N r
    obtain ⟨q1, rfl, hst1⟩ := mv_rs_i hst
    split at hs
    · rename_i hc
      cases hs
      obtain ⟨hc1, hc2, hc3⟩ := hc
      have hNi : mv_i N := ⟨by omega, by omega⟩
      have hNn : ¬ Int32.ofInt N < 0 := by rw [nu_lt0 hNi]; omega
      have hA : ∀ q, s.heap.size ≤ q → mv_A base q := fun q hq => Nat.le_trans hF.2.2.2.1.1 hq
      have hcl : (Int32.ofInt N).toNatClampNeg = N.toNat := nu_cl hc1 (by omega)
      have hcs1 : cells + 1 ≤ R.cells := by
        have h9 : cells + (c.2.1 + 1 - c.2.1) ≤ R.cells := hcs
        omega
      have hss1 : slots + N.toNat ≤ R.slots := by
        have h9 : slots + (c.2.2 + N.toNat - c.2.2) ≤ R.slots := hss
        omega
      have fin : ∀ (q : Nat) (cA : ClassId) (H1 : Heap) (x : vp_A), ArrOfT s cA (mv_kt (mv_ak k)) → va_RA s cA (mv_kt (mv_ak k)) → mv_rc0 (fun i : Int => if i = (c.1 : Int) then q else ι i) (c.1 + 1) (mv_ak k) N.toNat (fun _ => 0) x → 10 ≤ mv_ak k ∧ mv_ak k ≤ 15 → va_P D mv_cl (ws ++ [(q, .inl (cA, x))]) H1 → va_D (mv_A base) (ws ++ [(q, .inl (cA, x))]) → va_S (mv_A base) s.heap H1 locs → W p l e R s m args below meth cd H1 locs (cells + 1) (slots + N.toNat) Q (F0 m (pc + 2) lsr (.ref q :: q1)) := fun q cA H1 x hA1 hA2 hrc hk9 hP1 hD1 hS1 => by
        have hi : ∀ j : Int, 0 ≤ j → j < c.1 → (fun i : Int => if i = (c.1 : Int) then q else ι i) j = ι j := fun j _ hj => if_neg (by omega)
        have hw' := mv_w_push (q := q) (o := (mv_ak k, N, fun _ => 0)) (e := .inl (cA, x)) hw (Or.inr ⟨hk9.1, hk9.2, cA, N.toNat, x, rfl, (Int.toNat_of_nonneg hc1).symm, by omega, hA1, hA2, hrc⟩)
        have := K H1 locs _ lsr (.ref q :: q1) ⟨_, hP1, hD1, hS1, hw', mv_rl_up hi (by omega) hl, ⟨⟨by omega, by show (c.1 : Int) < ((c.1 + 1 : Nat) : Int); omega, by show Value.ref q = Value.ref (if (c.1 : Int) = (c.1 : Int) then q else ι c.1); rw [if_pos rfl]⟩, mv_rs_up hi (by omega) _ _ hst1⟩⟩ hi
        simpa only [Nat.add_sub_cancel_left] using this
      cases k with
      | int => exact va_newa (atype := .int) (ty := .int) (a0 := (N.toNat, .inl (fun _ => 0))) hx hb (hF.1 _ mv_aw.1 _) rfl hF.2.2.1 hP hD hS hA (fun _ => rfl) hNn hcl (by show N.toNat * 4 ≤ 536870912; omega) hcs1 hss1 hd (fun q cA H1 hK1 hP1 hD1 hS1 => fin q cA H1 _ (mv_K2 hK1).1 (mv_K2 hK1).2 ⟨rfl, Or.inl ⟨by decide, _, rfl, fun _ _ => rfl⟩⟩ (by decide) hP1 hD1 hS1)
      | char => exact va_newa (atype := .char) (ty := .char) (a0 := (N.toNat, .inl (fun _ => 0))) hx hb (hF.1 _ mv_aw.2.1 _) rfl hF.2.2.1 hP hD hS hA (fun _ => rfl) hNn hcl (by show N.toNat * 2 ≤ 536870912; omega) hcs1 hss1 hd (fun q cA H1 hK1 hP1 hD1 hS1 => fin q cA H1 _ (mv_K2 hK1).1 (mv_K2 hK1).2 ⟨rfl, Or.inl ⟨by decide, _, rfl, fun _ _ => rfl⟩⟩ (by decide) hP1 hD1 hS1)
      | boolean => exact va_newa (atype := .boolean) (ty := .boolean) (a0 := (N.toNat, .inl (fun _ => 0))) hx hb (hF.1 _ mv_aw.2.2.1 _) rfl hF.2.2.1 hP hD hS hA (fun _ => rfl) hNn hcl (by show N.toNat * 1 ≤ 536870912; omega) hcs1 hss1 hd (fun q cA H1 hK1 hP1 hD1 hS1 => fin q cA H1 _ (mv_K2 hK1).1 (mv_K2 hK1).2 ⟨rfl, Or.inl ⟨by decide, _, rfl, fun _ _ => rfl⟩⟩ (by decide) hP1 hD1 hS1)
      | long => exact va_newa (atype := .long) (ty := .long) (a0 := (N.toNat, .inr (.inl (fun _ => 0)))) hx hb (hF.1 _ mv_aw.2.2.2 _) rfl hF.2.2.1 hP hD hS hA (fun _ => rfl) hNn hcl (by show N.toNat * 8 ≤ 536870912; omega) hcs1 hss1 hd (fun q cA H1 hK1 hP1 hD1 hS1 => fin q cA H1 _ (mv_K2 hK1).1 (mv_K2 hK1).2 ⟨rfl, Or.inr (Or.inl ⟨rfl, _, rfl, fun _ _ => rfl⟩)⟩ (by decide) hP1 hD1 hS1)
      | _ => exact absurd hc3 (by decide)
    · cases hs
  · cases hs
theorem mv_w_anewarray {c c' : mv_C} {h' : mv_H} {pc' : Nat} {ls' st' : List mv_V} {k : Nat} (X : mv_Cx p l m args meth cd y D bs base L xs s) (hg : mv_get (mv_m y).1 pc = some (.anewarray k, a)) (hs : mv_step ((L : Int), fun j => (xs j.toNat).toInt) pc (.anewarray k) a ls st c h = some (pc', ls', st', c', h'))
    (rel : mv_Rl D s bs base ι c.1 h H locs (mv_m y).2.2.1 lsr str ls st) (hcs : cells + (c'.2.1 - c.2.1) ≤ R.cells) (hss : slots + (c'.2.2 - c.2.2) ≤ R.slots)
    (K : ∀ (H1 : Heap) (locs1 : List Loc) (ι1 : Int → Nat) (lsr1 : Array Slot) (str1 : List Value), mv_Rl D s bs base ι1 c'.1 h' H1 locs1 (mv_m y).2.2.1 lsr1 str1 ls' st' → (∀ j : Int, 0 ≤ j → j < c.1 → ι1 j = ι j) → W p l e R s m args below meth cd H1 locs1 (cells + (c'.2.1 - c.2.1)) (slots + (c'.2.2 - c.2.2)) Q (F0 m pc' lsr1 str1)) : W p l e R s m args below meth cd H locs cells slots Q (F0 m pc lsr str) := by
  obtain ⟨hx, hb, hml, hret, hlk, hown, hnm, hxt, hst0, hF⟩ := id X
  obtain ⟨ws, hP, hD, hS, hw, hl, hst⟩ := rel
  have hd := mv_dec hg
  simp only [mv_step] at hs
  split at hs
  · rename_i N r
    obtain ⟨q1, rfl, hst1⟩ := mv_rs_i hst
    split at hs
    · rename_i hc
      cases hs
      obtain ⟨hc1, hc2, hc3⟩ := hc
      have hNi : mv_i N := ⟨by omega, by omega⟩
      have hNn : ¬ Int32.ofInt N < 0 := by rw [nu_lt0 hNi]; omega
      have hA : ∀ q, s.heap.size ≤ q → mv_A base q := fun q hq => Nat.le_trans hF.2.2.2.1.1 hq
      have hcl : (Int32.ofInt N).toNatClampNeg = N.toNat := nu_cl hc1 (by omega)
      have hcs1 : cells + 1 ≤ R.cells := by
        have h9 : cells + (c.2.1 + 1 - c.2.1) ≤ R.cells := hcs
        omega
      have hss1 : slots + N.toNat ≤ R.slots := by
        have h9 : slots + (c.2.2 + N.toNat - c.2.2) ≤ R.slots := hss
        omega
      have fin : ∀ (q : Nat) (cA : ClassId) (H1 : Heap) (x : vp_A), ArrOfT s cA (mv_kt a.toNat) → va_RA s cA (mv_kt a.toNat) → mv_rc0 (fun i : Int => if i = (c.1 : Int) then q else ι i) (c.1 + 1) a.toNat N.toNat (fun _ => -1) x → va_P D mv_cl (ws ++ [(q, .inl (cA, x))]) H1 → va_D (mv_A base) (ws ++ [(q, .inl (cA, x))]) → va_S (mv_A base) s.heap H1 locs → W p l e R s m args below meth cd H1 locs (cells + 1) (slots + N.toNat) Q (F0 m (pc + 3) lsr (.ref q :: q1)) := fun q cA H1 x hA1 hA2 hrc hP1 hD1 hS1 => by
        have hi : ∀ j : Int, 0 ≤ j → j < c.1 → (fun i : Int => if i = (c.1 : Int) then q else ι i) j = ι j := fun j _ hj => if_neg (by omega)
        have hw' := mv_w_push (q := q) (o := (a.toNat, N, fun _ => -1)) (e := .inl (cA, x)) hw (Or.inr ⟨by show 10 ≤ a.toNat; omega, by show a.toNat ≤ 15; omega, cA, N.toNat, x, rfl, (Int.toNat_of_nonneg hc1).symm, by omega, hA1, hA2, hrc⟩)
        have := K H1 locs _ lsr (.ref q :: q1) ⟨_, hP1, hD1, hS1, hw', mv_rl_up hi (by omega) hl, ⟨⟨by omega, by show (c.1 : Int) < ((c.1 + 1 : Nat) : Int); omega, by show Value.ref q = Value.ref (if (c.1 : Int) = (c.1 : Int) then q else ι c.1); rw [if_pos rfl]⟩, mv_rs_up hi (by omega) _ _ hst1⟩⟩ hi
        simpa only [Nat.add_sub_cancel_left] using this
      obtain ⟨pl, hpl⟩ := mv_pool hg
      have hlk2 : (Cond.classLink (mv_ow y) k (mv_cn (a - 13).toNat)).before args s = true := by
        match pl, hpl with
        | [q], hpl => exact hF.1 _ (mv_G_in (mv_at_in ((Bool.and_eq_true _ _).mp hpl).1) rfl) _
        | [], hpl => cases hpl
        | _ :: _ :: _, hpl => cases hpl
      rcases hc3 with rfl | rfl
      · exact va_newq hx hb hown hlk2 hF.2.2.2.2.2.2.2.1 hF.2.2.1 hP hD hS hA hNn hcl (by omega) hcs1 hss1 hd (fun q cA H1 hK1 hP1 hD1 hS1 => fin q cA H1 _ (mv_K2 hK1).1 (mv_K2 hK1).2 ⟨rfl, Or.inr (Or.inr ⟨by decide, _, rfl, fun _ _ => Or.inr ⟨(by decide : (-1 : Int) < 0), rfl⟩⟩)⟩ hP1 hD1 hS1)
      · exact va_newq hx hb hown hlk2 hF.2.2.2.2.2.2.2.2 hF.2.2.1 hP hD hS hA hNn hcl (by omega) hcs1 hss1 hd (fun q cA H1 hK1 hP1 hD1 hS1 => fin q cA H1 _ (mv_K2 hK1).1 (mv_K2 hK1).2 ⟨rfl, Or.inr (Or.inr ⟨by decide, _, rfl, fun _ _ => Or.inr ⟨(by decide : (-1 : Int) < 0), rfl⟩⟩)⟩ hP1 hD1 hS1)
    · cases hs
  · cases hs
end HPS
