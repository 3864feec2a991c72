/-! the wrappers of the law (written by wip/whole/m81.py) -/
section GN
variable {sc : Int × (Int → Int)} {c : mv_C} {h : mv_H}
def LF (S : spt) (e1 e2 : Int) (c : mv_C) (h : mv_H) : mv_R → mv_C → mv_H → Prop := fun r c' h' => r = clr e1 e2 S.1 S.2.1 ∧ cgr c c' ∧ LtA c'.1 h' S.2.2 ∧ (∀ b : Int, 264 ≤ b → b ≤ 276 → h' b = h b) ∧ mv_i S.2.1
def LX (S : spt) (c : mv_C) (h : mv_H) : mv_R → mv_C → mv_H → Prop := fun r c' h' => r = (0, S.1) ∧ cgr c c' ∧ LtA c'.1 h' S.2.2 ∧ (∀ b : Int, 264 ≤ b → b ≤ 275 → h' b = h b) ∧ mv_i S.2.1 ∧ (h' 276).1 = 13 ∧ (h' 276).2.1 = 1 ∧ (S.1 = 0 → (h' 276).2.2 0 = S.2.1)
theorem LtA.o76 {m : Nat} {h : mv_H} {W : wt} {o : mv_O} (hl : LtA m h W) : LtA m (mv_uo h 276 o) W := ⟨hl.1.kq (fun b hb => uo_n (by unfold csb at hb; omega)), hl.2.kq (fun b hb => uo_n (by omega))⟩
theorem cl_mono {z : Nat} {vs : List mv_V} {c : mv_C} {h : mv_H} {Q Q' : mv_R → mv_C → mv_H → Prop} (hC : mv_Cl sc z vs c h Q) (hQ : ∀ r c' h', Q r c' h' → Q' r c' h') : mv_Cl sc z vs c h Q' := by
  obtain ⟨N, v, c1, h1, hr, hq⟩ := hC
  exact ⟨N, v, c1, h1, hr, hQ v c1 h1 hq⟩
theorem kk_append (W : wt) (x : Int) : (sp_append W x).1 = 0 ∨ (sp_append W x).1 = 1 ∨ (sp_append W x).1 = 2 := by
  unfold sp_append
  repeat' split
  all_goals first | exact Or.inl rfl | exact Or.inr rfl | exact Or.inr (Or.inl rfl) | exact Or.inr (Or.inr rfl)
theorem lf_append {m o s_ : Nat} {W : wt} (hL : LtA m h W) (x : Int) (hx : mv_i x) : mv_Cl sc q_LT_append [(2, 0), (0, x)] (m, o, s_) h (LF (sp_append W x) 0 1 (m, o, s_) h) := by
  refine cl_mono (f_append hL x hx) ?_
  rintro _ _ h1 ⟨rfl, rfl, hl, hf, hi⟩
  exact ⟨rfl, cgr_k _ _, by rw [cck_1]; exact hl, hf, hi⟩
theorem kk_about (W : wt) (x : Int) : (sp_about W x).1 = 0 ∨ (sp_about W x).1 = 1 := by
  unfold sp_about
  repeat' split
  all_goals first | exact Or.inl rfl | exact Or.inr rfl | exact Or.inr (Or.inl rfl) | exact Or.inr (Or.inr rfl)
theorem kw_about (W : wt) (x : Int) : (sp_about W x).2.2 = W := by
  unfold sp_about
  repeat' split
  all_goals rfl
theorem lf_about {m o s_ : Nat} {W : wt} (hL : LtA m h W) (x : Int) (hx : mv_i x) : mv_Cl sc q_LT_about [(2, 0), (0, x)] (m, o, s_) h (LF (sp_about W x) 0 9 (m, o, s_) h) := by
  refine cl_mono (f_about hL x hx) ?_
  rintro _ _ _ ⟨rfl, rfl, rfl, hi⟩
  exact ⟨rfl, cgr_k _ _, by rw [cck_1, kw_about]; exact hL, fun _ _ _ => rfl, hi⟩
theorem kk_line (W : wt) (i : Int) (x : Int) : (sp_line W i x).1 = 0 ∨ (sp_line W i x).1 = 1 ∨ (sp_line W i x).1 = 2 := by
  unfold sp_line
  repeat' split
  all_goals first | exact Or.inl rfl | exact Or.inr rfl | exact Or.inr (Or.inl rfl) | exact Or.inr (Or.inr rfl)
theorem kw_line (W : wt) (i : Int) (x : Int) : (sp_line W i x).2.2 = W := by
  unfold sp_line
  repeat' split
  all_goals rfl
theorem lf_line {m o s_ : Nat} {W : wt} (hL : LtA m h W) (i : Int) (hi : mv_i i) (x : Int) (hx : mv_i x) : mv_Cl sc q_LT_line [(2, 0), (0, i), (0, x)] (m, o, s_) h (LF (sp_line W i x) 2 0 (m, o, s_) h) := by
  refine cl_mono (f_line hL i hi x hx) ?_
  rintro _ _ _ ⟨rfl, rfl, rfl, hi⟩
  exact ⟨rfl, cgr_k _ _, by rw [cck_1, kw_line]; exact hL, fun _ _ _ => rfl, hi⟩
theorem kk_charAt (W : wt) (i : Int) (x : Int) : (sp_charAt W i x).1 = 0 ∨ (sp_charAt W i x).1 = 1 ∨ (sp_charAt W i x).1 = 2 := by
  unfold sp_charAt
  repeat' split
  all_goals first | exact Or.inl rfl | exact Or.inr rfl | exact Or.inr (Or.inl rfl) | exact Or.inr (Or.inr rfl)
theorem kw_charAt (W : wt) (i : Int) (x : Int) : (sp_charAt W i x).2.2 = W := by
  unfold sp_charAt
  repeat' split
  all_goals rfl
theorem lf_charAt {m o s_ : Nat} {W : wt} (hL : LtA m h W) (i : Int) (hi : mv_i i) (x : Int) (hx : mv_i x) : mv_Cl sc q_LT_charAt [(2, 0), (0, i), (0, x)] (m, o, s_) h (LF (sp_charAt W i x) 2 0 (m, o, s_) h) := by
  refine cl_mono (f_charAt hL i hi x hx) ?_
  rintro _ _ _ ⟨rfl, rfl, rfl, hi⟩
  exact ⟨rfl, cgr_k _ _, by rw [cck_1, kw_charAt]; exact hL, fun _ _ _ => rfl, hi⟩
theorem kk_value (W : wt) (i : Int) (x : Int) : (sp_value W i x).1 = 0 ∨ (sp_value W i x).1 = 1 := by
  unfold sp_value
  repeat' split
  all_goals first | exact Or.inl rfl | exact Or.inr rfl | exact Or.inr (Or.inl rfl) | exact Or.inr (Or.inr rfl)
theorem kw_value (W : wt) (i : Int) (x : Int) : (sp_value W i x).2.2 = W := by
  unfold sp_value
  repeat' split
  all_goals rfl
theorem lf_value {m o s_ : Nat} {W : wt} (hL : LtA m h W) (i : Int) (hi : mv_i i) (x : Int) (hx : mv_i x) : mv_Cl sc q_LT_value [(2, 0), (0, i), (0, x)] (m, o, s_) h (LF (sp_value W i x) 2 9 (m, o, s_) h) := by
  refine cl_mono (f_value hL i hi x hx) ?_
  rintro _ _ _ ⟨rfl, rfl, rfl, hi⟩
  exact ⟨rfl, cgr_k _ _, by rw [cck_1, kw_value]; exact hL, fun _ _ _ => rfl, hi⟩
theorem kk_template (W : wt) (i : Int) (x : Int) : (sp_template W i x).1 = 0 ∨ (sp_template W i x).1 = 1 ∨ (sp_template W i x).1 = 2 := by
  unfold sp_template
  repeat' split
  all_goals first | exact Or.inl rfl | exact Or.inr rfl | exact Or.inr (Or.inl rfl) | exact Or.inr (Or.inr rfl)
theorem kw_template (W : wt) (i : Int) (x : Int) : (sp_template W i x).2.2 = W := by
  unfold sp_template
  repeat' split
  all_goals rfl
theorem lf_template {m o s_ : Nat} {W : wt} (hL : LtA m h W) (i : Int) (hi : mv_i i) (x : Int) (hx : mv_i x) : mv_Cl sc q_LT_template [(2, 0), (0, i), (0, x)] (m, o, s_) h (LF (sp_template W i x) 2 0 (m, o, s_) h) := by
  refine cl_mono (f_template hL i hi x hx) ?_
  rintro _ _ _ ⟨rfl, rfl, rfl, hi⟩
  exact ⟨rfl, cgr_k _ _, by rw [cck_1, kw_template]; exact hL, fun _ _ _ => rfl, hi⟩
theorem kk_piece (W : wt) (t : Int) (q : Int) (x : Int) : (sp_piece W t q x).1 = 0 ∨ (sp_piece W t q x).1 = 1 ∨ (sp_piece W t q x).1 = 2 := by
  unfold sp_piece
  repeat' split
  all_goals first | exact Or.inl rfl | exact Or.inr rfl | exact Or.inr (Or.inl rfl) | exact Or.inr (Or.inr rfl)
theorem kw_piece (W : wt) (t : Int) (q : Int) (x : Int) : (sp_piece W t q x).2.2 = W := by
  unfold sp_piece
  repeat' split
  all_goals rfl
theorem lf_piece {m o s_ : Nat} {W : wt} (hL : LtA m h W) (t : Int) (ht : mv_i t) (q : Int) (hq : mv_i q) (x : Int) (hx : mv_i x) : mv_Cl sc q_LT_piece [(2, 0), (0, t), (0, q), (0, x)] (m, o, s_) h (LF (sp_piece W t q x) 2 0 (m, o, s_) h) := by
  refine cl_mono (f_piece hL t ht q hq x hx) ?_
  rintro _ _ _ ⟨rfl, rfl, rfl, hi⟩
  exact ⟨rfl, cgr_k _ _, by rw [cck_1, kw_piece]; exact hL, fun _ _ _ => rfl, hi⟩
theorem kk_rises (W : wt) (t : Int) (q : Int) : (sp_rises W t q).1 = 0 ∨ (sp_rises W t q).1 = 1 := by
  unfold sp_rises
  repeat' split
  all_goals first | exact Or.inl rfl | exact Or.inr rfl | exact Or.inr (Or.inl rfl) | exact Or.inr (Or.inr rfl)
theorem kw_rises (W : wt) (t : Int) (q : Int) : (sp_rises W t q).2.2 = W := by
  unfold sp_rises
  repeat' split
  all_goals rfl
theorem lf_rises {m o s_ : Nat} {W : wt} (hL : LtA m h W) (t : Int) (ht : mv_i t) (q : Int) (hq : mv_i q) : mv_Cl sc q_LT_rises [(2, 0), (0, t), (0, q)] (m, o, s_) h (LF (sp_rises W t q) 2 9 (m, o, s_) h) := by
  refine cl_mono (f_rises hL t ht q hq) ?_
  rintro _ _ _ ⟨rfl, rfl, rfl, hi⟩
  exact ⟨rfl, cgr_k _ _, by rw [cck_1, kw_rises]; exact hL, fun _ _ _ => rfl, hi⟩
theorem kk_take (W : wt) (l : Int) : (sp_take W l).1 = 0 ∨ (sp_take W l).1 = 1 := by
  unfold sp_take
  repeat' split
  all_goals first | exact Or.inl rfl | exact Or.inr rfl | exact Or.inr (Or.inl rfl) | exact Or.inr (Or.inr rfl)
theorem lf_take {m o s_ : Nat} {W : wt} (hL : LtA m h W)  : mv_Cl sc q_LT_take [(2, 0)] (m, o, s_) h (LF (sp_take W m) 1 9 (m, o, s_) h) := by
  refine cl_mono (f_take hL) ?_
  rintro _ c1 h1 ⟨rfl, hg, hl, hf, hi⟩
  exact ⟨rfl, hg, hl, hf, hi⟩
theorem kk_again (W : wt) (i : Int) : (sp_again W i).1 = 0 ∨ (sp_again W i).1 = 1 ∨ (sp_again W i).1 = 2 := by
  unfold sp_again
  repeat' split
  all_goals first | exact Or.inl rfl | exact Or.inr rfl | exact Or.inr (Or.inl rfl) | exact Or.inr (Or.inr rfl)
theorem lf_again {m o s_ : Nat} {W : wt} (hL : LtA m h W) (i : Int) (hi : mv_i i) : mv_Cl sc q_LT_again [(2, 0), (0, i)] (m, o, s_) h (LF (sp_again W i) 2 1 (m, o, s_) h) := by
  refine cl_mono (f_again hL i hi) ?_
  rintro _ _ h1 ⟨rfl, rfl, hl, hf, hi⟩
  exact ⟨rfl, cgr_k _ _, by rw [cck_1]; exact hl, hf, hi⟩
theorem kk_remove (W : wt) (i : Int) : (sp_remove W i).1 = 0 ∨ (sp_remove W i).1 = 1 := by
  unfold sp_remove
  repeat' split
  all_goals first | exact Or.inl rfl | exact Or.inr rfl | exact Or.inr (Or.inl rfl) | exact Or.inr (Or.inr rfl)
theorem lf_remove {m o s_ : Nat} {W : wt} (hL : LtA m h W) (i : Int) (hi : mv_i i) : mv_Cl sc q_LT_remove [(2, 0), (0, i)] (m, o, s_) h (LF (sp_remove W i) 2 9 (m, o, s_) h) := by
  refine cl_mono (f_remove hL i hi) ?_
  rintro _ _ h1 ⟨rfl, rfl, hl, hf, hi⟩
  exact ⟨rfl, cgr_k _ _, by rw [cck_1]; exact hl, hf, hi⟩
theorem kk_open (W : wt) (t : Int) (q : Int) : (sp_open W t q).1 = 0 ∨ (sp_open W t q).1 = 1 ∨ (sp_open W t q).1 = 2 := by
  unfold sp_open
  repeat' split
  all_goals first | exact Or.inl rfl | exact Or.inr rfl | exact Or.inr (Or.inl rfl) | exact Or.inr (Or.inr rfl)
theorem lf_open {m o s_ : Nat} {W : wt} (hL : LtA m h W) (t : Int) (ht : mv_i t) (q : Int) (hq : mv_i q) : mv_Cl sc q_LT_open [(2, 0), (0, t), (0, q)] (m, o, s_) h (LF (sp_open W t q) 2 1 (m, o, s_) h) := by
  refine cl_mono (f_open hL t ht q hq) ?_
  rintro _ _ h1 ⟨rfl, rfl, hl, hf, hi⟩
  exact ⟨rfl, cgr_k _ _, by rw [cck_1]; exact hl, hf, hi⟩
theorem kk_forget (W : wt) : (sp_forget W).1 = 0 ∨ (sp_forget W).1 = 1 := by
  unfold sp_forget
  repeat' split
  all_goals first | exact Or.inl rfl | exact Or.inr rfl | exact Or.inr (Or.inl rfl) | exact Or.inr (Or.inr rfl)
theorem lf_forget {m o s_ : Nat} {W : wt} (hL : LtA m h W)  : mv_Cl sc q_LT_forget [(2, 0)] (m, o, s_) h (LF (sp_forget W) 1 9 (m, o, s_) h) := by
  refine cl_mono (f_forget hL) ?_
  rintro _ _ h1 ⟨rfl, rfl, hl, hf, hi⟩
  exact ⟨rfl, cgr_k _ _, by rw [cck_1]; exact hl, hf, hi⟩
theorem kk_undo (W : wt) : (sp_undo W).1 = 0 ∨ (sp_undo W).1 = 1 := by
  unfold sp_undo
  repeat' split
  all_goals first | exact Or.inl rfl | exact Or.inr rfl | exact Or.inr (Or.inl rfl) | exact Or.inr (Or.inr rfl)
theorem lf_undo {m o s_ : Nat} {W : wt} (hL : LtA m h W)  : mv_Cl sc q_LT_undo [(2, 0)] (m, o, s_) h (LF (sp_undo W) 1 9 (m, o, s_) h) := by
  refine cl_mono (f_undo hL) ?_
  rintro _ _ h1 ⟨rfl, rfl, hl, hf, hi⟩
  exact ⟨rfl, cgr_k _ _, by rw [cck_1]; exact hl, hf, hi⟩
theorem kk_next (W : wt) (i : Int) (x : Int) : (sp_next W i x).1 = 0 ∨ (sp_next W i x).1 = 1 ∨ (sp_next W i x).1 = 2 := by
  unfold sp_next
  repeat' split
  all_goals first | exact Or.inl rfl | exact Or.inr rfl | exact Or.inr (Or.inl rfl) | exact Or.inr (Or.inr rfl)
theorem kw_next (W : wt) (i : Int) (x : Int) : (sp_next W i x).2.2 = W := by
  unfold sp_next
  repeat' split
  all_goals rfl
theorem lf_next {m o s_ : Nat} {W : wt} (hL : LtA m h W) (i : Int) (hi : mv_i i) (x : Int) (hx : mv_i x) : mv_Cl sc q_LT_next [(2, 0), (0, i), (0, x)] (m, o, s_) h (LF (sp_next W i x) 2 0 (m, o, s_) h) := by
  refine cl_mono (f_next hL i hi x hx) ?_
  rintro _ _ _ ⟨rfl, rfl, rfl, hi⟩
  exact ⟨rfl, cgr_k _ _, by rw [cck_1, kw_next]; exact hL, fun _ _ _ => rfl, hi⟩
theorem kk_withv (W : wt) (x : Int) : (sp_withv W x).1 = 0 ∨ (sp_withv W x).1 = 1 := by
  unfold sp_withv
  repeat' split
  all_goals first | exact Or.inl rfl | exact Or.inr rfl | exact Or.inr (Or.inl rfl) | exact Or.inr (Or.inr rfl)
theorem kw_withv (W : wt) (x : Int) : (sp_withv W x).2.2 = W := by
  unfold sp_withv
  repeat' split
  all_goals rfl
theorem lf_withv {m o s_ : Nat} {W : wt} (hL : LtA m h W) (x : Int) (hx : mv_i x) : mv_Cl sc q_LT_withValue [(2, 0), (0, x)] (m, o, s_) h (LF (sp_withv W x) 0 9 (m, o, s_) h) := by
  refine cl_mono (f_withv hL x hx) ?_
  rintro _ _ _ ⟨rfl, rfl, rfl, hi⟩
  exact ⟨rfl, cgr_k _ _, by rw [cck_1, kw_withv]; exact hL, fun _ _ _ => rfl, hi⟩
theorem kk_run (W : wt) (n : Int) (s : Int) : (sp_run W n s).1 = 0 ∨ (sp_run W n s).1 = 1 := by
  unfold sp_run
  repeat' split
  all_goals first | exact Or.inl rfl | exact Or.inr rfl | exact Or.inr (Or.inl rfl) | exact Or.inr (Or.inr rfl)
theorem lf_run {m o s_ : Nat} {W : wt} (hL : LtA m h W) (n : Int) (hn : mv_i n) (s : Int) (hs : mv_l s) : mv_Cl sc q_LT_runScript [(2, 0), (0, n), (1, s)] (m, o, s_) h (LF (sp_run W n s) 0 9 (m, o, s_) h) := by
  refine cl_mono (f_run hL n s hn hs) ?_
  rintro _ _ h1 ⟨rfl, rfl, hl, hf, hi⟩
  exact ⟨rfl, cgr_k _ _, by rw [cck_1]; exact hl, hf, hi⟩
theorem kk_sim (W : wt) (x0 : Int) (k : Int) : (sp_sim W x0 k).1 = 0 ∨ (sp_sim W x0 k).1 = 1 := by
  unfold sp_sim
  repeat' split
  all_goals first | exact Or.inl rfl | exact Or.inr rfl | exact Or.inr (Or.inl rfl) | exact Or.inr (Or.inr rfl)
theorem lf_sim {m o s_ : Nat} {W : wt} (hL : LtA m h W) (x0 : Int) (hx0 : mv_l x0) (k : Int) (hk : mv_i k) : mv_Cl sc q_LT_simulate [(2, 0), (1, x0), (0, k)] (m, o, s_) h (LF (sp_sim W x0 k) 0 9 (m, o, s_) h) := by
  refine cl_mono (f_sim hL x0 k hk) ?_
  rintro _ _ h1 ⟨rfl, rfl, hl, hf, hi⟩
  exact ⟨rfl, cgr_k _ _, by rw [cck_1]; exact hl, hf, hi⟩
theorem kk_save (W : wt) (s : Int) : (sp_save W s).1 = 0 ∨ (sp_save W s).1 = 1 := by
  unfold sp_save
  repeat' split
  all_goals first | exact Or.inl rfl | exact Or.inr rfl | exact Or.inr (Or.inl rfl) | exact Or.inr (Or.inr rfl)
theorem lf_save {m o s_ : Nat} {W : wt} (hL : LtA m h W) (s : Int) (hs : mv_i s) : mv_Cl sc q_LT_save [(2, 0), (0, s)] (m, o, s_) h (LF (sp_save W s) 2 9 (m, o, s_) h) := by
  refine cl_mono (f_save hL s hs) ?_
  rintro _ _ h1 ⟨rfl, rfl, hl, hf, hi⟩
  exact ⟨rfl, cgr_k _ _, by rw [cck_1]; exact hl, hf, hi⟩
theorem kk_restore (W : wt) (s : Int) : (sp_restore W s).1 = 0 ∨ (sp_restore W s).1 = 1 ∨ (sp_restore W s).1 = 2 := by
  unfold sp_restore
  repeat' split
  all_goals first | exact Or.inl rfl | exact Or.inr rfl | exact Or.inr (Or.inl rfl) | exact Or.inr (Or.inr rfl)
theorem lf_restore {m o s_ : Nat} {W : wt} (hL : LtA m h W) (s : Int) (hs : mv_i s) : mv_Cl sc q_LT_restore [(2, 0), (0, s)] (m, o, s_) h (LF (sp_restore W s) 2 1 (m, o, s_) h) := by
  refine cl_mono (f_restore hL s hs) ?_
  rintro _ _ h1 ⟨rfl, rfl, hl, hf, hi⟩
  exact ⟨rfl, cgr_k _ _, by rw [cck_1]; exact hl, hf, hi⟩
theorem lf_clear {m o s_ : Nat} {W : wt} (hL : LtA m h W) : mv_Cl sc q_LT_clearText [(2, 0)] (m, o, s_) h (LF (sp_clear W) 9 9 (m, o, s_) h) := by
  refine cl_mono (f_clear hL) ?_
  rintro _ _ h1 ⟨rfl, rfl, hl, hf, hi⟩
  exact ⟨rfl, cgr_k _ _, by rw [cck_1]; exact hl, hf, hi⟩
theorem lf_error {m o s_ : Nat} {W : wt} (hL : LtA m h W) : mv_Cl sc q_LT_errorPosition [(2, 0)] (m, o, s_) h (LF (sp_error W) 9 9 (m, o, s_) h) := by
  refine cl_mono (f_error hL) ?_
  rintro _ _ h1 ⟨rfl, rfl, hl, hf, hi⟩
  exact ⟨rfl, cgr_k _ _, by rw [cck_1]; exact hl, hf, hi⟩
theorem lf_learn {m o s_ : Nat} {W : wt} (hL : LtA m h W) : mv_Cl sc q_LT_learn [(2, 0)] (m, o, s_) h (LF (sp_learn W) 9 9 (m, o, s_) h) := by
  refine cl_mono (f_learn hL) ?_
  rintro _ _ h1 ⟨rfl, rfl, hl, hf, hi⟩
  exact ⟨rfl, cgr_k _ _, by rw [cck_1]; exact hl, hf, hi⟩
theorem lf_learnAll {m o s_ : Nat} {W : wt} (hL : LtA m h W) : mv_Cl sc q_LT_learnAll [(2, 0)] (m, o, s_) h (LF (sp_learnAll W) 9 9 (m, o, s_) h) := by
  refine cl_mono (f_learnAll hL) ?_
  rintro _ _ h1 ⟨rfl, rfl, hl, hf, hi⟩
  exact ⟨rfl, cgr_k _ _, by rw [cck_1]; exact hl, hf, hi⟩
theorem lf_which {m o s_ : Nat} {W : wt} (hL : LtA m h W) : mv_Cl sc q_LT_which [(2, 0)] (m, o, s_) h (LF (sp_which W) 9 9 (m, o, s_) h) := by
  refine cl_mono (f_which hL) ?_
  rintro _ _ h1 ⟨rfl, rfl, hl, hf, hi⟩
  exact ⟨rfl, cgr_k _ _, by rw [cck_1]; exact hl, hf, hi⟩
theorem lf_cost {m o s_ : Nat} {W : wt} (hL : LtA m h W) : mv_Cl sc q_LT_wouldCost [(2, 0)] (m, o, s_) h (LF (sp_cost W) 9 9 (m, o, s_) h) := by
  refine cl_mono (f_cost hL) ?_
  rintro _ _ h1 ⟨rfl, rfl, hl, hf, hi⟩
  exact ⟨rfl, cgr_k _ _, by rw [cck_1]; exact hl, hf, hi⟩
theorem lf_saves {m o s_ : Nat} {W : wt} (hL : LtA m h W) : mv_Cl sc q_LT_saves [(2, 0)] (m, o, s_) h (LF (sp_saves W) 9 9 (m, o, s_) h) := by
  refine cl_mono (f_saves hL) ?_
  rintro _ _ h1 ⟨rfl, rfl, hl, hf, hi⟩
  exact ⟨rfl, cgr_k _ _, by rw [cck_1]; exact hl, hf, hi⟩
set_option maxRecDepth 10000 in
theorem w_append  {m o s_ : Nat} {W : wt} (hL : LtA m h W) (o1 : (h 276).1 = 13) (o2 : (h 276).2.1 = 1) (x : Int) (hx : mv_i x) : mv_Cl sc q_Law_append [(2, 0), (0, x), (2, 276)] (m, o, s_) h (LX (sp_append W x) (m, o, s_) h) := by
  have a0 : (h 0).1 = 0 := hL.1.1.1
  show mv_Ev sc 185 0 [(2, 0), (0, x), (2, 276), (5, 0)] [] (m, o, s_) h _
  have hK : (mv_m 185).1 = kc_Law_append := rfl
  refine e_step (pc' := 1) hK rfl rfl rfl ?_
  refine e_step (pc' := 2) hK rfl rfl rfl ?_
  refine e_step (pc' := 3) hK rfl rfl rfl ?_
  refine e_step (pc' := 4) hK rfl rfl rfl ?_
  refine e_callH (z := 50) (vs := [(2, 0), (0, x)]) (r := [(0, 0), (2, 276)]) hK rfl rfl rfl rfl rfl (Nat.le_of_ble_eq_true rfl) (decide_eq_true a0) (Nat.le_of_ble_eq_true rfl) (by decide) rfl rfl (lf_append hL x hx) ?_
  rintro _ c1 h1 ⟨rfl, hg, hl, hf, hi⟩
  have e76 : h1 276 = h 276 := hf 276 (by omega) (by omega)
  rcases kk_append W x with k0 | k0 | k0
  · rw [show clr 0 1 (sp_append W x).1 (sp_append W x).2.1 = (0, (sp_append W x).2.1) from by rw [k0]; rfl]
    refine Or.inl ⟨by show (0 : Nat) ≠ 4; decide, ?_⟩
    rw [if_neg (by show ¬ (0 : Nat) = 3; decide)]
    show mv_Ev _ _ 7 _ _ _ _ _
    refine e_i2l (pc' := 8) hK rfl (by first | omega | assumption) rfl ?_
    refine e_last (pc' := 9) hK rfl (by simp only [e76, o1, o2]) (by first | omega | assumption) (by (try simp only [e76, o1, o2]); first | omega | assumption) rfl ?_
    refine e_goto (t := 18) hK rfl (by decide) ?_
    refine e_step (pc' := 19) hK rfl rfl rfl ?_
    refine e_ret hK rfl rfl rfl ?_
    exact ⟨by rw [k0], hg, hl.o76, fun b b0 b1 => (uo_n (by omega)).trans (hf b b0 (by omega)), hi, by rw [uo_e rfl]; dsimp only; rw [e76]; exact o1, by rw [uo_e rfl]; dsimp only; rw [e76]; exact o2, fun _ => by { rw [uo_e rfl]; dsimp only; exact up_s }⟩
  · rw [show clr 0 1 (sp_append W x).1 (sp_append W x).2.1 = (4, 0) from by rw [k0]; rfl]
    refine Or.inr ⟨rfl, by decide, by decide, 12, rfl, ?_⟩
    show mv_Ev _ _ 12 _ _ _ _ _
    refine e_step (pc' := 13) hK rfl rfl rfl ?_
    try simp only [List.set_cons_zero, List.set_cons_succ]
    refine e_step (pc' := 14) hK rfl rfl rfl ?_
    refine e_ret hK rfl rfl rfl ?_
    exact ⟨by rw [k0], hg, hl, fun b b0 b1 => hf b b0 (by omega), hi, by rw [e76]; exact o1, by rw [e76]; exact o2, fun e0 => absurd (k0.symm.trans e0) (by decide)⟩
  · rw [show clr 0 1 (sp_append W x).1 (sp_append W x).2.1 = (4, 1) from by rw [k0]; rfl]
    refine Or.inr ⟨rfl, by decide, by decide, 15, rfl, ?_⟩
    show mv_Ev _ _ 15 _ _ _ _ _
    refine e_step (pc' := 16) hK rfl rfl rfl ?_
    try simp only [List.set_cons_zero, List.set_cons_succ]
    refine e_step (pc' := 17) hK rfl rfl rfl ?_
    refine e_ret hK rfl rfl rfl ?_
    exact ⟨by rw [k0], hg, hl, fun b b0 b1 => hf b b0 (by omega), hi, by rw [e76]; exact o1, by rw [e76]; exact o2, fun e0 => absurd (k0.symm.trans e0) (by decide)⟩
set_option maxRecDepth 10000 in
theorem w_about  {m o s_ : Nat} {W : wt} (hL : LtA m h W) (o1 : (h 276).1 = 13) (o2 : (h 276).2.1 = 1) (x : Int) (hx : mv_i x) : mv_Cl sc q_Law_about [(2, 0), (0, x), (2, 276)] (m, o, s_) h (LX (sp_about W x) (m, o, s_) h) := by
  have a0 : (h 0).1 = 0 := hL.1.1.1
  show mv_Ev sc 186 0 [(2, 0), (0, x), (2, 276), (5, 0)] [] (m, o, s_) h _
  have hK : (mv_m 186).1 = kc_Law_about := rfl
  refine e_step (pc' := 1) hK rfl rfl rfl ?_
  refine e_step (pc' := 2) hK rfl rfl rfl ?_
  refine e_step (pc' := 3) hK rfl rfl rfl ?_
  refine e_step (pc' := 4) hK rfl rfl rfl ?_
  refine e_callH (z := 51) (vs := [(2, 0), (0, x)]) (r := [(0, 0), (2, 276)]) hK rfl rfl rfl rfl rfl (Nat.le_of_ble_eq_true rfl) (decide_eq_true a0) (Nat.le_of_ble_eq_true rfl) (by decide) rfl rfl (lf_about hL x hx) ?_
  rintro _ c1 h1 ⟨rfl, hg, hl, hf, hi⟩
  have e76 : h1 276 = h 276 := hf 276 (by omega) (by omega)
  rcases kk_about W x with k0 | k0
  · rw [show clr 0 9 (sp_about W x).1 (sp_about W x).2.1 = (0, (sp_about W x).2.1) from by rw [k0]; rfl]
    refine Or.inl ⟨by show (0 : Nat) ≠ 4; decide, ?_⟩
    rw [if_neg (by show ¬ (0 : Nat) = 3; decide)]
    show mv_Ev _ _ 7 _ _ _ _ _
    refine e_i2l (pc' := 8) hK rfl (by first | omega | assumption) rfl ?_
    refine e_last (pc' := 9) hK rfl (by simp only [e76, o1, o2]) (by first | omega | assumption) (by (try simp only [e76, o1, o2]); first | omega | assumption) rfl ?_
    refine e_goto (t := 15) hK rfl (by decide) ?_
    refine e_step (pc' := 16) hK rfl rfl rfl ?_
    refine e_ret hK rfl rfl rfl ?_
    exact ⟨by rw [k0], hg, hl.o76, fun b b0 b1 => (uo_n (by omega)).trans (hf b b0 (by omega)), hi, by rw [uo_e rfl]; dsimp only; rw [e76]; exact o1, by rw [uo_e rfl]; dsimp only; rw [e76]; exact o2, fun _ => by { rw [uo_e rfl]; dsimp only; exact up_s }⟩
  · rw [show clr 0 9 (sp_about W x).1 (sp_about W x).2.1 = (4, 0) from by rw [k0]; rfl]
    refine Or.inr ⟨rfl, by decide, by decide, 12, rfl, ?_⟩
    show mv_Ev _ _ 12 _ _ _ _ _
    refine e_step (pc' := 13) hK rfl rfl rfl ?_
    try simp only [List.set_cons_zero, List.set_cons_succ]
    refine e_step (pc' := 14) hK rfl rfl rfl ?_
    refine e_ret hK rfl rfl rfl ?_
    exact ⟨by rw [k0], hg, hl, fun b b0 b1 => hf b b0 (by omega), hi, by rw [e76]; exact o1, by rw [e76]; exact o2, fun e0 => absurd (k0.symm.trans e0) (by decide)⟩
set_option maxRecDepth 10000 in
theorem w_line  {m o s_ : Nat} {W : wt} (hL : LtA m h W) (o1 : (h 276).1 = 13) (o2 : (h 276).2.1 = 1) (i : Int) (hi : mv_i i) (x : Int) (hx : mv_i x) : mv_Cl sc q_Law_line [(2, 0), (0, i), (0, x), (2, 276)] (m, o, s_) h (LX (sp_line W i x) (m, o, s_) h) := by
  have a0 : (h 0).1 = 0 := hL.1.1.1
  show mv_Ev sc 187 0 [(2, 0), (0, i), (0, x), (2, 276), (5, 0)] [] (m, o, s_) h _
  have hK : (mv_m 187).1 = kc_Law_line := rfl
  refine e_step (pc' := 1) hK rfl rfl rfl ?_
  refine e_step (pc' := 2) hK rfl rfl rfl ?_
  refine e_step (pc' := 3) hK rfl rfl rfl ?_
  refine e_step (pc' := 4) hK rfl rfl rfl ?_
  refine e_step (pc' := 5) hK rfl rfl rfl ?_
  refine e_callH (z := 52) (vs := [(2, 0), (0, i), (0, x)]) (r := [(0, 0), (2, 276)]) hK rfl rfl rfl rfl rfl (Nat.le_of_ble_eq_true rfl) (decide_eq_true a0) (Nat.le_of_ble_eq_true rfl) (by decide) rfl rfl (lf_line hL i hi x hx) ?_
  rintro _ c1 h1 ⟨rfl, hg, hl, hf, hi⟩
  have e76 : h1 276 = h 276 := hf 276 (by omega) (by omega)
  rcases kk_line W i x with k0 | k0 | k0
  · rw [show clr 2 0 (sp_line W i x).1 (sp_line W i x).2.1 = (0, (sp_line W i x).2.1) from by rw [k0]; rfl]
    refine Or.inl ⟨by show (0 : Nat) ≠ 4; decide, ?_⟩
    rw [if_neg (by show ¬ (0 : Nat) = 3; decide)]
    show mv_Ev _ _ 8 _ _ _ _ _
    refine e_i2l (pc' := 9) hK rfl (by first | omega | assumption) rfl ?_
    refine e_last (pc' := 10) hK rfl (by simp only [e76, o1, o2]) (by first | omega | assumption) (by (try simp only [e76, o1, o2]); first | omega | assumption) rfl ?_
    refine e_goto (t := 21) hK rfl (by decide) ?_
    refine e_step (pc' := 22) hK rfl rfl rfl ?_
    refine e_ret hK rfl rfl rfl ?_
    exact ⟨by rw [k0], hg, hl.o76, fun b b0 b1 => (uo_n (by omega)).trans (hf b b0 (by omega)), hi, by rw [uo_e rfl]; dsimp only; rw [e76]; exact o1, by rw [uo_e rfl]; dsimp only; rw [e76]; exact o2, fun _ => by { rw [uo_e rfl]; dsimp only; exact up_s }⟩
  · rw [show clr 2 0 (sp_line W i x).1 (sp_line W i x).2.1 = (4, 2) from by rw [k0]; rfl]
    refine Or.inr ⟨rfl, by decide, by decide, 13, rfl, ?_⟩
    show mv_Ev _ _ 13 _ _ _ _ _
    refine e_step (pc' := 15) hK rfl rfl rfl ?_
    try simp only [List.set_cons_zero, List.set_cons_succ]
    refine e_step (pc' := 16) hK rfl rfl rfl ?_
    refine e_ret hK rfl rfl rfl ?_
    exact ⟨by rw [k0], hg, hl, fun b b0 b1 => hf b b0 (by omega), hi, by rw [e76]; exact o1, by rw [e76]; exact o2, fun e0 => absurd (k0.symm.trans e0) (by decide)⟩
  · rw [show clr 2 0 (sp_line W i x).1 (sp_line W i x).2.1 = (4, 0) from by rw [k0]; rfl]
    refine Or.inr ⟨rfl, by decide, by decide, 17, rfl, ?_⟩
    show mv_Ev _ _ 17 _ _ _ _ _
    refine e_step (pc' := 19) hK rfl rfl rfl ?_
    try simp only [List.set_cons_zero, List.set_cons_succ]
    refine e_step (pc' := 20) hK rfl rfl rfl ?_
    refine e_ret hK rfl rfl rfl ?_
    exact ⟨by rw [k0], hg, hl, fun b b0 b1 => hf b b0 (by omega), hi, by rw [e76]; exact o1, by rw [e76]; exact o2, fun e0 => absurd (k0.symm.trans e0) (by decide)⟩
set_option maxRecDepth 10000 in
theorem w_charAt  {m o s_ : Nat} {W : wt} (hL : LtA m h W) (o1 : (h 276).1 = 13) (o2 : (h 276).2.1 = 1) (i : Int) (hi : mv_i i) (x : Int) (hx : mv_i x) : mv_Cl sc q_Law_charAt [(2, 0), (0, i), (0, x), (2, 276)] (m, o, s_) h (LX (sp_charAt W i x) (m, o, s_) h) := by
  have a0 : (h 0).1 = 0 := hL.1.1.1
  show mv_Ev sc 188 0 [(2, 0), (0, i), (0, x), (2, 276), (5, 0)] [] (m, o, s_) h _
  have hK : (mv_m 188).1 = kc_Law_charAt := rfl
  refine e_step (pc' := 1) hK rfl rfl rfl ?_
  refine e_step (pc' := 2) hK rfl rfl rfl ?_
  refine e_step (pc' := 3) hK rfl rfl rfl ?_
  refine e_step (pc' := 4) hK rfl rfl rfl ?_
  refine e_step (pc' := 5) hK rfl rfl rfl ?_
  refine e_callH (z := 54) (vs := [(2, 0), (0, i), (0, x)]) (r := [(0, 0), (2, 276)]) hK rfl rfl rfl rfl rfl (Nat.le_of_ble_eq_true rfl) (decide_eq_true a0) (Nat.le_of_ble_eq_true rfl) (by decide) rfl rfl (lf_charAt hL i hi x hx) ?_
  rintro _ c1 h1 ⟨rfl, hg, hl, hf, hi⟩
  have e76 : h1 276 = h 276 := hf 276 (by omega) (by omega)
  rcases kk_charAt W i x with k0 | k0 | k0
  · rw [show clr 2 0 (sp_charAt W i x).1 (sp_charAt W i x).2.1 = (0, (sp_charAt W i x).2.1) from by rw [k0]; rfl]
    refine Or.inl ⟨by show (0 : Nat) ≠ 4; decide, ?_⟩
    rw [if_neg (by show ¬ (0 : Nat) = 3; decide)]
    show mv_Ev _ _ 8 _ _ _ _ _
    refine e_i2l (pc' := 9) hK rfl (by first | omega | assumption) rfl ?_
    refine e_last (pc' := 10) hK rfl (by simp only [e76, o1, o2]) (by first | omega | assumption) (by (try simp only [e76, o1, o2]); first | omega | assumption) rfl ?_
    refine e_goto (t := 21) hK rfl (by decide) ?_
    refine e_step (pc' := 22) hK rfl rfl rfl ?_
    refine e_ret hK rfl rfl rfl ?_
    exact ⟨by rw [k0], hg, hl.o76, fun b b0 b1 => (uo_n (by omega)).trans (hf b b0 (by omega)), hi, by rw [uo_e rfl]; dsimp only; rw [e76]; exact o1, by rw [uo_e rfl]; dsimp only; rw [e76]; exact o2, fun _ => by { rw [uo_e rfl]; dsimp only; exact up_s }⟩
  · rw [show clr 2 0 (sp_charAt W i x).1 (sp_charAt W i x).2.1 = (4, 2) from by rw [k0]; rfl]
    refine Or.inr ⟨rfl, by decide, by decide, 13, rfl, ?_⟩
    show mv_Ev _ _ 13 _ _ _ _ _
    refine e_step (pc' := 15) hK rfl rfl rfl ?_
    try simp only [List.set_cons_zero, List.set_cons_succ]
    refine e_step (pc' := 16) hK rfl rfl rfl ?_
    refine e_ret hK rfl rfl rfl ?_
    exact ⟨by rw [k0], hg, hl, fun b b0 b1 => hf b b0 (by omega), hi, by rw [e76]; exact o1, by rw [e76]; exact o2, fun e0 => absurd (k0.symm.trans e0) (by decide)⟩
  · rw [show clr 2 0 (sp_charAt W i x).1 (sp_charAt W i x).2.1 = (4, 0) from by rw [k0]; rfl]
    refine Or.inr ⟨rfl, by decide, by decide, 17, rfl, ?_⟩
    show mv_Ev _ _ 17 _ _ _ _ _
    refine e_step (pc' := 19) hK rfl rfl rfl ?_
    try simp only [List.set_cons_zero, List.set_cons_succ]
    refine e_step (pc' := 20) hK rfl rfl rfl ?_
    refine e_ret hK rfl rfl rfl ?_
    exact ⟨by rw [k0], hg, hl, fun b b0 b1 => hf b b0 (by omega), hi, by rw [e76]; exact o1, by rw [e76]; exact o2, fun e0 => absurd (k0.symm.trans e0) (by decide)⟩
set_option maxRecDepth 10000 in
theorem w_value  {m o s_ : Nat} {W : wt} (hL : LtA m h W) (o1 : (h 276).1 = 13) (o2 : (h 276).2.1 = 1) (i : Int) (hi : mv_i i) (x : Int) (hx : mv_i x) : mv_Cl sc q_Law_value [(2, 0), (0, i), (0, x), (2, 276)] (m, o, s_) h (LX (sp_value W i x) (m, o, s_) h) := by
  have a0 : (h 0).1 = 0 := hL.1.1.1
  show mv_Ev sc 189 0 [(2, 0), (0, i), (0, x), (2, 276), (5, 0)] [] (m, o, s_) h _
  have hK : (mv_m 189).1 = kc_Law_value := rfl
  refine e_step (pc' := 1) hK rfl rfl rfl ?_
  refine e_step (pc' := 2) hK rfl rfl rfl ?_
  refine e_step (pc' := 3) hK rfl rfl rfl ?_
  refine e_step (pc' := 4) hK rfl rfl rfl ?_
  refine e_step (pc' := 5) hK rfl rfl rfl ?_
  refine e_callH (z := 55) (vs := [(2, 0), (0, i), (0, x)]) (r := [(0, 0), (2, 276)]) hK rfl rfl rfl rfl rfl (Nat.le_of_ble_eq_true rfl) (decide_eq_true a0) (Nat.le_of_ble_eq_true rfl) (by decide) rfl rfl (lf_value hL i hi x hx) ?_
  rintro _ c1 h1 ⟨rfl, hg, hl, hf, hi⟩
  have e76 : h1 276 = h 276 := hf 276 (by omega) (by omega)
  rcases kk_value W i x with k0 | k0
  · rw [show clr 2 9 (sp_value W i x).1 (sp_value W i x).2.1 = (0, (sp_value W i x).2.1) from by rw [k0]; rfl]
    refine Or.inl ⟨by show (0 : Nat) ≠ 4; decide, ?_⟩
    rw [if_neg (by show ¬ (0 : Nat) = 3; decide)]
    show mv_Ev _ _ 8 _ _ _ _ _
    refine e_i2l (pc' := 9) hK rfl (by first | omega | assumption) rfl ?_
    refine e_last (pc' := 10) hK rfl (by simp only [e76, o1, o2]) (by first | omega | assumption) (by (try simp only [e76, o1, o2]); first | omega | assumption) rfl ?_
    refine e_goto (t := 17) hK rfl (by decide) ?_
    refine e_step (pc' := 18) hK rfl rfl rfl ?_
    refine e_ret hK rfl rfl rfl ?_
    exact ⟨by rw [k0], hg, hl.o76, fun b b0 b1 => (uo_n (by omega)).trans (hf b b0 (by omega)), hi, by rw [uo_e rfl]; dsimp only; rw [e76]; exact o1, by rw [uo_e rfl]; dsimp only; rw [e76]; exact o2, fun _ => by { rw [uo_e rfl]; dsimp only; exact up_s }⟩
  · rw [show clr 2 9 (sp_value W i x).1 (sp_value W i x).2.1 = (4, 2) from by rw [k0]; rfl]
    refine Or.inr ⟨rfl, by decide, by decide, 13, rfl, ?_⟩
    show mv_Ev _ _ 13 _ _ _ _ _
    refine e_step (pc' := 15) hK rfl rfl rfl ?_
    try simp only [List.set_cons_zero, List.set_cons_succ]
    refine e_step (pc' := 16) hK rfl rfl rfl ?_
    refine e_ret hK rfl rfl rfl ?_
    exact ⟨by rw [k0], hg, hl, fun b b0 b1 => hf b b0 (by omega), hi, by rw [e76]; exact o1, by rw [e76]; exact o2, fun e0 => absurd (k0.symm.trans e0) (by decide)⟩
set_option maxRecDepth 10000 in
theorem w_template  {m o s_ : Nat} {W : wt} (hL : LtA m h W) (o1 : (h 276).1 = 13) (o2 : (h 276).2.1 = 1) (i : Int) (hi : mv_i i) (x : Int) (hx : mv_i x) : mv_Cl sc q_Law_template [(2, 0), (0, i), (0, x), (2, 276)] (m, o, s_) h (LX (sp_template W i x) (m, o, s_) h) := by
  have a0 : (h 0).1 = 0 := hL.1.1.1
  show mv_Ev sc 190 0 [(2, 0), (0, i), (0, x), (2, 276), (5, 0)] [] (m, o, s_) h _
  have hK : (mv_m 190).1 = kc_Law_template := rfl
  refine e_step (pc' := 1) hK rfl rfl rfl ?_
  refine e_step (pc' := 2) hK rfl rfl rfl ?_
  refine e_step (pc' := 3) hK rfl rfl rfl ?_
  refine e_step (pc' := 4) hK rfl rfl rfl ?_
  refine e_step (pc' := 5) hK rfl rfl rfl ?_
  refine e_callH (z := 57) (vs := [(2, 0), (0, i), (0, x)]) (r := [(0, 0), (2, 276)]) hK rfl rfl rfl rfl rfl (Nat.le_of_ble_eq_true rfl) (decide_eq_true a0) (Nat.le_of_ble_eq_true rfl) (by decide) rfl rfl (lf_template hL i hi x hx) ?_
  rintro _ c1 h1 ⟨rfl, hg, hl, hf, hi⟩
  have e76 : h1 276 = h 276 := hf 276 (by omega) (by omega)
  rcases kk_template W i x with k0 | k0 | k0
  · rw [show clr 2 0 (sp_template W i x).1 (sp_template W i x).2.1 = (0, (sp_template W i x).2.1) from by rw [k0]; rfl]
    refine Or.inl ⟨by show (0 : Nat) ≠ 4; decide, ?_⟩
    rw [if_neg (by show ¬ (0 : Nat) = 3; decide)]
    show mv_Ev _ _ 8 _ _ _ _ _
    refine e_i2l (pc' := 9) hK rfl (by first | omega | assumption) rfl ?_
    refine e_last (pc' := 10) hK rfl (by simp only [e76, o1, o2]) (by first | omega | assumption) (by (try simp only [e76, o1, o2]); first | omega | assumption) rfl ?_
    refine e_goto (t := 21) hK rfl (by decide) ?_
    refine e_step (pc' := 22) hK rfl rfl rfl ?_
    refine e_ret hK rfl rfl rfl ?_
    exact ⟨by rw [k0], hg, hl.o76, fun b b0 b1 => (uo_n (by omega)).trans (hf b b0 (by omega)), hi, by rw [uo_e rfl]; dsimp only; rw [e76]; exact o1, by rw [uo_e rfl]; dsimp only; rw [e76]; exact o2, fun _ => by { rw [uo_e rfl]; dsimp only; exact up_s }⟩
  · rw [show clr 2 0 (sp_template W i x).1 (sp_template W i x).2.1 = (4, 2) from by rw [k0]; rfl]
    refine Or.inr ⟨rfl, by decide, by decide, 13, rfl, ?_⟩
    show mv_Ev _ _ 13 _ _ _ _ _
    refine e_step (pc' := 15) hK rfl rfl rfl ?_
    try simp only [List.set_cons_zero, List.set_cons_succ]
    refine e_step (pc' := 16) hK rfl rfl rfl ?_
    refine e_ret hK rfl rfl rfl ?_
    exact ⟨by rw [k0], hg, hl, fun b b0 b1 => hf b b0 (by omega), hi, by rw [e76]; exact o1, by rw [e76]; exact o2, fun e0 => absurd (k0.symm.trans e0) (by decide)⟩
  · rw [show clr 2 0 (sp_template W i x).1 (sp_template W i x).2.1 = (4, 0) from by rw [k0]; rfl]
    refine Or.inr ⟨rfl, by decide, by decide, 17, rfl, ?_⟩
    show mv_Ev _ _ 17 _ _ _ _ _
    refine e_step (pc' := 19) hK rfl rfl rfl ?_
    try simp only [List.set_cons_zero, List.set_cons_succ]
    refine e_step (pc' := 20) hK rfl rfl rfl ?_
    refine e_ret hK rfl rfl rfl ?_
    exact ⟨by rw [k0], hg, hl, fun b b0 b1 => hf b b0 (by omega), hi, by rw [e76]; exact o1, by rw [e76]; exact o2, fun e0 => absurd (k0.symm.trans e0) (by decide)⟩
set_option maxRecDepth 10000 in
theorem w_piece  {m o s_ : Nat} {W : wt} (hL : LtA m h W) (o1 : (h 276).1 = 13) (o2 : (h 276).2.1 = 1) (t : Int) (ht : mv_i t) (q : Int) (hq : mv_i q) (x : Int) (hx : mv_i x) : mv_Cl sc q_Law_piece [(2, 0), (0, t), (0, q), (0, x), (2, 276)] (m, o, s_) h (LX (sp_piece W t q x) (m, o, s_) h) := by
  have a0 : (h 0).1 = 0 := hL.1.1.1
  show mv_Ev sc 191 0 [(2, 0), (0, t), (0, q), (0, x), (2, 276), (5, 0)] [] (m, o, s_) h _
  have hK : (mv_m 191).1 = kc_Law_piece := rfl
  refine e_step (pc' := 2) hK rfl rfl rfl ?_
  refine e_step (pc' := 3) hK rfl rfl rfl ?_
  refine e_step (pc' := 4) hK rfl rfl rfl ?_
  refine e_step (pc' := 5) hK rfl rfl rfl ?_
  refine e_step (pc' := 6) hK rfl rfl rfl ?_
  refine e_step (pc' := 7) hK rfl rfl rfl ?_
  refine e_callH (z := 59) (vs := [(2, 0), (0, t), (0, q), (0, x)]) (r := [(0, 0), (2, 276)]) hK rfl rfl rfl rfl rfl (Nat.le_of_ble_eq_true rfl) (decide_eq_true a0) (Nat.le_of_ble_eq_true rfl) (by decide) rfl rfl (lf_piece hL t ht q hq x hx) ?_
  rintro _ c1 h1 ⟨rfl, hg, hl, hf, hi⟩
  have e76 : h1 276 = h 276 := hf 276 (by omega) (by omega)
  rcases kk_piece W t q x with k0 | k0 | k0
  · rw [show clr 2 0 (sp_piece W t q x).1 (sp_piece W t q x).2.1 = (0, (sp_piece W t q x).2.1) from by rw [k0]; rfl]
    refine Or.inl ⟨by show (0 : Nat) ≠ 4; decide, ?_⟩
    rw [if_neg (by show ¬ (0 : Nat) = 3; decide)]
    show mv_Ev _ _ 10 _ _ _ _ _
    refine e_i2l (pc' := 11) hK rfl (by first | omega | assumption) rfl ?_
    refine e_last (pc' := 12) hK rfl (by simp only [e76, o1, o2]) (by first | omega | assumption) (by (try simp only [e76, o1, o2]); first | omega | assumption) rfl ?_
    refine e_goto (t := 23) hK rfl (by decide) ?_
    refine e_step (pc' := 24) hK rfl rfl rfl ?_
    refine e_ret hK rfl rfl rfl ?_
    exact ⟨by rw [k0], hg, hl.o76, fun b b0 b1 => (uo_n (by omega)).trans (hf b b0 (by omega)), hi, by rw [uo_e rfl]; dsimp only; rw [e76]; exact o1, by rw [uo_e rfl]; dsimp only; rw [e76]; exact o2, fun _ => by { rw [uo_e rfl]; dsimp only; exact up_s }⟩
  · rw [show clr 2 0 (sp_piece W t q x).1 (sp_piece W t q x).2.1 = (4, 2) from by rw [k0]; rfl]
    refine Or.inr ⟨rfl, by decide, by decide, 15, rfl, ?_⟩
    show mv_Ev _ _ 15 _ _ _ _ _
    refine e_step (pc' := 17) hK rfl rfl rfl ?_
    try simp only [List.set_cons_zero, List.set_cons_succ]
    refine e_step (pc' := 18) hK rfl rfl rfl ?_
    refine e_ret hK rfl rfl rfl ?_
    exact ⟨by rw [k0], hg, hl, fun b b0 b1 => hf b b0 (by omega), hi, by rw [e76]; exact o1, by rw [e76]; exact o2, fun e0 => absurd (k0.symm.trans e0) (by decide)⟩
  · rw [show clr 2 0 (sp_piece W t q x).1 (sp_piece W t q x).2.1 = (4, 0) from by rw [k0]; rfl]
    refine Or.inr ⟨rfl, by decide, by decide, 19, rfl, ?_⟩
    show mv_Ev _ _ 19 _ _ _ _ _
    refine e_step (pc' := 21) hK rfl rfl rfl ?_
    try simp only [List.set_cons_zero, List.set_cons_succ]
    refine e_step (pc' := 22) hK rfl rfl rfl ?_
    refine e_ret hK rfl rfl rfl ?_
    exact ⟨by rw [k0], hg, hl, fun b b0 b1 => hf b b0 (by omega), hi, by rw [e76]; exact o1, by rw [e76]; exact o2, fun e0 => absurd (k0.symm.trans e0) (by decide)⟩
set_option maxRecDepth 10000 in
theorem w_rises  {m o s_ : Nat} {W : wt} (hL : LtA m h W) (o1 : (h 276).1 = 13) (o2 : (h 276).2.1 = 1) (t : Int) (ht : mv_i t) (q : Int) (hq : mv_i q) : mv_Cl sc q_Law_rises [(2, 0), (0, t), (0, q), (2, 276)] (m, o, s_) h (LX (sp_rises W t q) (m, o, s_) h) := by
  have a0 : (h 0).1 = 0 := hL.1.1.1
  show mv_Ev sc 192 0 [(2, 0), (0, t), (0, q), (2, 276), (5, 0)] [] (m, o, s_) h _
  have hK : (mv_m 192).1 = kc_Law_rises := rfl
  refine e_step (pc' := 1) hK rfl rfl rfl ?_
  refine e_step (pc' := 2) hK rfl rfl rfl ?_
  refine e_step (pc' := 3) hK rfl rfl rfl ?_
  refine e_step (pc' := 4) hK rfl rfl rfl ?_
  refine e_step (pc' := 5) hK rfl rfl rfl ?_
  refine e_callH (z := 60) (vs := [(2, 0), (0, t), (0, q)]) (r := [(0, 0), (2, 276)]) hK rfl rfl rfl rfl rfl (Nat.le_of_ble_eq_true rfl) (decide_eq_true a0) (Nat.le_of_ble_eq_true rfl) (by decide) rfl rfl (lf_rises hL t ht q hq) ?_
  rintro _ c1 h1 ⟨rfl, hg, hl, hf, hi⟩
  have e76 : h1 276 = h 276 := hf 276 (by omega) (by omega)
  rcases kk_rises W t q with k0 | k0
  · rw [show clr 2 9 (sp_rises W t q).1 (sp_rises W t q).2.1 = (0, (sp_rises W t q).2.1) from by rw [k0]; rfl]
    refine Or.inl ⟨by show (0 : Nat) ≠ 4; decide, ?_⟩
    rw [if_neg (by show ¬ (0 : Nat) = 3; decide)]
    show mv_Ev _ _ 8 _ _ _ _ _
    refine e_i2l (pc' := 9) hK rfl (by first | omega | assumption) rfl ?_
    refine e_last (pc' := 10) hK rfl (by simp only [e76, o1, o2]) (by first | omega | assumption) (by (try simp only [e76, o1, o2]); first | omega | assumption) rfl ?_
    refine e_goto (t := 17) hK rfl (by decide) ?_
    refine e_step (pc' := 18) hK rfl rfl rfl ?_
    refine e_ret hK rfl rfl rfl ?_
    exact ⟨by rw [k0], hg, hl.o76, fun b b0 b1 => (uo_n (by omega)).trans (hf b b0 (by omega)), hi, by rw [uo_e rfl]; dsimp only; rw [e76]; exact o1, by rw [uo_e rfl]; dsimp only; rw [e76]; exact o2, fun _ => by { rw [uo_e rfl]; dsimp only; exact up_s }⟩
  · rw [show clr 2 9 (sp_rises W t q).1 (sp_rises W t q).2.1 = (4, 2) from by rw [k0]; rfl]
    refine Or.inr ⟨rfl, by decide, by decide, 13, rfl, ?_⟩
    show mv_Ev _ _ 13 _ _ _ _ _
    refine e_step (pc' := 15) hK rfl rfl rfl ?_
    try simp only [List.set_cons_zero, List.set_cons_succ]
    refine e_step (pc' := 16) hK rfl rfl rfl ?_
    refine e_ret hK rfl rfl rfl ?_
    exact ⟨by rw [k0], hg, hl, fun b b0 b1 => hf b b0 (by omega), hi, by rw [e76]; exact o1, by rw [e76]; exact o2, fun e0 => absurd (k0.symm.trans e0) (by decide)⟩
set_option maxRecDepth 10000 in
theorem w_take  {m o s_ : Nat} {W : wt} (hL : LtA m h W) (o1 : (h 276).1 = 13) (o2 : (h 276).2.1 = 1)  : mv_Cl sc q_Law_take [(2, 0), (2, 276)] (m, o, s_) h (LX (sp_take W m) (m, o, s_) h) := by
  have a0 : (h 0).1 = 0 := hL.1.1.1
  show mv_Ev sc 193 0 [(2, 0), (2, 276), (5, 0)] [] (m, o, s_) h _
  have hK : (mv_m 193).1 = kc_Law_take := rfl
  refine e_step (pc' := 1) hK rfl rfl rfl ?_
  refine e_step (pc' := 2) hK rfl rfl rfl ?_
  refine e_step (pc' := 3) hK rfl rfl rfl ?_
  refine e_callH (z := 61) (vs := [(2, 0)]) (r := [(0, 0), (2, 276)]) hK rfl rfl rfl rfl rfl (Nat.le_of_ble_eq_true rfl) (decide_eq_true a0) (Nat.le_of_ble_eq_true rfl) (by decide) rfl rfl (lf_take hL) ?_
  rintro _ c1 h1 ⟨rfl, hg, hl, hf, hi⟩
  have e76 : h1 276 = h 276 := hf 276 (by omega) (by omega)
  rcases kk_take W m with k0 | k0
  · rw [show clr 1 9 (sp_take W m).1 (sp_take W m).2.1 = (0, (sp_take W m).2.1) from by rw [k0]; rfl]
    refine Or.inl ⟨by show (0 : Nat) ≠ 4; decide, ?_⟩
    rw [if_neg (by show ¬ (0 : Nat) = 3; decide)]
    show mv_Ev _ _ 6 _ _ _ _ _
    refine e_i2l (pc' := 7) hK rfl (by first | omega | assumption) rfl ?_
    refine e_last (pc' := 8) hK rfl (by simp only [e76, o1, o2]) (by first | omega | assumption) (by (try simp only [e76, o1, o2]); first | omega | assumption) rfl ?_
    refine e_goto (t := 14) hK rfl (by decide) ?_
    refine e_step (pc' := 15) hK rfl rfl rfl ?_
    refine e_ret hK rfl rfl rfl ?_
    exact ⟨by rw [k0], hg, hl.o76, fun b b0 b1 => (uo_n (by omega)).trans (hf b b0 (by omega)), hi, by rw [uo_e rfl]; dsimp only; rw [e76]; exact o1, by rw [uo_e rfl]; dsimp only; rw [e76]; exact o2, fun _ => by { rw [uo_e rfl]; dsimp only; exact up_s }⟩
  · rw [show clr 1 9 (sp_take W m).1 (sp_take W m).2.1 = (4, 1) from by rw [k0]; rfl]
    refine Or.inr ⟨rfl, by decide, by decide, 11, rfl, ?_⟩
    show mv_Ev _ _ 11 _ _ _ _ _
    refine e_step (pc' := 12) hK rfl rfl rfl ?_
    try simp only [List.set_cons_zero, List.set_cons_succ]
    refine e_step (pc' := 13) hK rfl rfl rfl ?_
    refine e_ret hK rfl rfl rfl ?_
    exact ⟨by rw [k0], hg, hl, fun b b0 b1 => hf b b0 (by omega), hi, by rw [e76]; exact o1, by rw [e76]; exact o2, fun e0 => absurd (k0.symm.trans e0) (by decide)⟩
set_option maxRecDepth 10000 in
theorem w_again  {m o s_ : Nat} {W : wt} (hL : LtA m h W) (o1 : (h 276).1 = 13) (o2 : (h 276).2.1 = 1) (i : Int) (hi : mv_i i) : mv_Cl sc q_Law_again [(2, 0), (0, i), (2, 276)] (m, o, s_) h (LX (sp_again W i) (m, o, s_) h) := by
  have a0 : (h 0).1 = 0 := hL.1.1.1
  show mv_Ev sc 194 0 [(2, 0), (0, i), (2, 276), (5, 0)] [] (m, o, s_) h _
  have hK : (mv_m 194).1 = kc_Law_again := rfl
  refine e_step (pc' := 1) hK rfl rfl rfl ?_
  refine e_step (pc' := 2) hK rfl rfl rfl ?_
  refine e_step (pc' := 3) hK rfl rfl rfl ?_
  refine e_step (pc' := 4) hK rfl rfl rfl ?_
  refine e_callH (z := 62) (vs := [(2, 0), (0, i)]) (r := [(0, 0), (2, 276)]) hK rfl rfl rfl rfl rfl (Nat.le_of_ble_eq_true rfl) (decide_eq_true a0) (Nat.le_of_ble_eq_true rfl) (by decide) rfl rfl (lf_again hL i hi) ?_
  rintro _ c1 h1 ⟨rfl, hg, hl, hf, hi⟩
  have e76 : h1 276 = h 276 := hf 276 (by omega) (by omega)
  rcases kk_again W i with k0 | k0 | k0
  · rw [show clr 2 1 (sp_again W i).1 (sp_again W i).2.1 = (0, (sp_again W i).2.1) from by rw [k0]; rfl]
    refine Or.inl ⟨by show (0 : Nat) ≠ 4; decide, ?_⟩
    rw [if_neg (by show ¬ (0 : Nat) = 3; decide)]
    show mv_Ev _ _ 7 _ _ _ _ _
    refine e_i2l (pc' := 8) hK rfl (by first | omega | assumption) rfl ?_
    refine e_last (pc' := 9) hK rfl (by simp only [e76, o1, o2]) (by first | omega | assumption) (by (try simp only [e76, o1, o2]); first | omega | assumption) rfl ?_
    refine e_goto (t := 18) hK rfl (by decide) ?_
    refine e_step (pc' := 19) hK rfl rfl rfl ?_
    refine e_ret hK rfl rfl rfl ?_
    exact ⟨by rw [k0], hg, hl.o76, fun b b0 b1 => (uo_n (by omega)).trans (hf b b0 (by omega)), hi, by rw [uo_e rfl]; dsimp only; rw [e76]; exact o1, by rw [uo_e rfl]; dsimp only; rw [e76]; exact o2, fun _ => by { rw [uo_e rfl]; dsimp only; exact up_s }⟩
  · rw [show clr 2 1 (sp_again W i).1 (sp_again W i).2.1 = (4, 2) from by rw [k0]; rfl]
    refine Or.inr ⟨rfl, by decide, by decide, 12, rfl, ?_⟩
    show mv_Ev _ _ 12 _ _ _ _ _
    refine e_step (pc' := 13) hK rfl rfl rfl ?_
    try simp only [List.set_cons_zero, List.set_cons_succ]
    refine e_step (pc' := 14) hK rfl rfl rfl ?_
    refine e_ret hK rfl rfl rfl ?_
    exact ⟨by rw [k0], hg, hl, fun b b0 b1 => hf b b0 (by omega), hi, by rw [e76]; exact o1, by rw [e76]; exact o2, fun e0 => absurd (k0.symm.trans e0) (by decide)⟩
  · rw [show clr 2 1 (sp_again W i).1 (sp_again W i).2.1 = (4, 1) from by rw [k0]; rfl]
    refine Or.inr ⟨rfl, by decide, by decide, 15, rfl, ?_⟩
    show mv_Ev _ _ 15 _ _ _ _ _
    refine e_step (pc' := 16) hK rfl rfl rfl ?_
    try simp only [List.set_cons_zero, List.set_cons_succ]
    refine e_step (pc' := 17) hK rfl rfl rfl ?_
    refine e_ret hK rfl rfl rfl ?_
    exact ⟨by rw [k0], hg, hl, fun b b0 b1 => hf b b0 (by omega), hi, by rw [e76]; exact o1, by rw [e76]; exact o2, fun e0 => absurd (k0.symm.trans e0) (by decide)⟩
set_option maxRecDepth 10000 in
theorem w_remove  {m o s_ : Nat} {W : wt} (hL : LtA m h W) (o1 : (h 276).1 = 13) (o2 : (h 276).2.1 = 1) (i : Int) (hi : mv_i i) : mv_Cl sc q_Law_remove [(2, 0), (0, i), (2, 276)] (m, o, s_) h (LX (sp_remove W i) (m, o, s_) h) := by
  have a0 : (h 0).1 = 0 := hL.1.1.1
  show mv_Ev sc 195 0 [(2, 0), (0, i), (2, 276), (5, 0)] [] (m, o, s_) h _
  have hK : (mv_m 195).1 = kc_Law_remove := rfl
  refine e_step (pc' := 1) hK rfl rfl rfl ?_
  refine e_step (pc' := 2) hK rfl rfl rfl ?_
  refine e_step (pc' := 3) hK rfl rfl rfl ?_
  refine e_step (pc' := 4) hK rfl rfl rfl ?_
  refine e_callH (z := 63) (vs := [(2, 0), (0, i)]) (r := [(0, 0), (2, 276)]) hK rfl rfl rfl rfl rfl (Nat.le_of_ble_eq_true rfl) (decide_eq_true a0) (Nat.le_of_ble_eq_true rfl) (by decide) rfl rfl (lf_remove hL i hi) ?_
  rintro _ c1 h1 ⟨rfl, hg, hl, hf, hi⟩
  have e76 : h1 276 = h 276 := hf 276 (by omega) (by omega)
  rcases kk_remove W i with k0 | k0
  · rw [show clr 2 9 (sp_remove W i).1 (sp_remove W i).2.1 = (0, (sp_remove W i).2.1) from by rw [k0]; rfl]
    refine Or.inl ⟨by show (0 : Nat) ≠ 4; decide, ?_⟩
    rw [if_neg (by show ¬ (0 : Nat) = 3; decide)]
    show mv_Ev _ _ 7 _ _ _ _ _
    refine e_i2l (pc' := 8) hK rfl (by first | omega | assumption) rfl ?_
    refine e_last (pc' := 9) hK rfl (by simp only [e76, o1, o2]) (by first | omega | assumption) (by (try simp only [e76, o1, o2]); first | omega | assumption) rfl ?_
    refine e_goto (t := 15) hK rfl (by decide) ?_
    refine e_step (pc' := 16) hK rfl rfl rfl ?_
    refine e_ret hK rfl rfl rfl ?_
    exact ⟨by rw [k0], hg, hl.o76, fun b b0 b1 => (uo_n (by omega)).trans (hf b b0 (by omega)), hi, by rw [uo_e rfl]; dsimp only; rw [e76]; exact o1, by rw [uo_e rfl]; dsimp only; rw [e76]; exact o2, fun _ => by { rw [uo_e rfl]; dsimp only; exact up_s }⟩
  · rw [show clr 2 9 (sp_remove W i).1 (sp_remove W i).2.1 = (4, 2) from by rw [k0]; rfl]
    refine Or.inr ⟨rfl, by decide, by decide, 12, rfl, ?_⟩
    show mv_Ev _ _ 12 _ _ _ _ _
    refine e_step (pc' := 13) hK rfl rfl rfl ?_
    try simp only [List.set_cons_zero, List.set_cons_succ]
    refine e_step (pc' := 14) hK rfl rfl rfl ?_
    refine e_ret hK rfl rfl rfl ?_
    exact ⟨by rw [k0], hg, hl, fun b b0 b1 => hf b b0 (by omega), hi, by rw [e76]; exact o1, by rw [e76]; exact o2, fun e0 => absurd (k0.symm.trans e0) (by decide)⟩
set_option maxRecDepth 10000 in
theorem w_open  {m o s_ : Nat} {W : wt} (hL : LtA m h W) (o1 : (h 276).1 = 13) (o2 : (h 276).2.1 = 1) (t : Int) (ht : mv_i t) (q : Int) (hq : mv_i q) : mv_Cl sc q_Law_open [(2, 0), (0, t), (0, q), (2, 276)] (m, o, s_) h (LX (sp_open W t q) (m, o, s_) h) := by
  have a0 : (h 0).1 = 0 := hL.1.1.1
  show mv_Ev sc 196 0 [(2, 0), (0, t), (0, q), (2, 276), (5, 0)] [] (m, o, s_) h _
  have hK : (mv_m 196).1 = kc_Law_open := rfl
  refine e_step (pc' := 1) hK rfl rfl rfl ?_
  refine e_step (pc' := 2) hK rfl rfl rfl ?_
  refine e_step (pc' := 3) hK rfl rfl rfl ?_
  refine e_step (pc' := 4) hK rfl rfl rfl ?_
  refine e_step (pc' := 5) hK rfl rfl rfl ?_
  refine e_callH (z := 64) (vs := [(2, 0), (0, t), (0, q)]) (r := [(0, 0), (2, 276)]) hK rfl rfl rfl rfl rfl (Nat.le_of_ble_eq_true rfl) (decide_eq_true a0) (Nat.le_of_ble_eq_true rfl) (by decide) rfl rfl (lf_open hL t ht q hq) ?_
  rintro _ c1 h1 ⟨rfl, hg, hl, hf, hi⟩
  have e76 : h1 276 = h 276 := hf 276 (by omega) (by omega)
  rcases kk_open W t q with k0 | k0 | k0
  · rw [show clr 2 1 (sp_open W t q).1 (sp_open W t q).2.1 = (0, (sp_open W t q).2.1) from by rw [k0]; rfl]
    refine Or.inl ⟨by show (0 : Nat) ≠ 4; decide, ?_⟩
    rw [if_neg (by show ¬ (0 : Nat) = 3; decide)]
    show mv_Ev _ _ 8 _ _ _ _ _
    refine e_i2l (pc' := 9) hK rfl (by first | omega | assumption) rfl ?_
    refine e_last (pc' := 10) hK rfl (by simp only [e76, o1, o2]) (by first | omega | assumption) (by (try simp only [e76, o1, o2]); first | omega | assumption) rfl ?_
    refine e_goto (t := 21) hK rfl (by decide) ?_
    refine e_step (pc' := 22) hK rfl rfl rfl ?_
    refine e_ret hK rfl rfl rfl ?_
    exact ⟨by rw [k0], hg, hl.o76, fun b b0 b1 => (uo_n (by omega)).trans (hf b b0 (by omega)), hi, by rw [uo_e rfl]; dsimp only; rw [e76]; exact o1, by rw [uo_e rfl]; dsimp only; rw [e76]; exact o2, fun _ => by { rw [uo_e rfl]; dsimp only; exact up_s }⟩
  · rw [show clr 2 1 (sp_open W t q).1 (sp_open W t q).2.1 = (4, 2) from by rw [k0]; rfl]
    refine Or.inr ⟨rfl, by decide, by decide, 13, rfl, ?_⟩
    show mv_Ev _ _ 13 _ _ _ _ _
    refine e_step (pc' := 15) hK rfl rfl rfl ?_
    try simp only [List.set_cons_zero, List.set_cons_succ]
    refine e_step (pc' := 16) hK rfl rfl rfl ?_
    refine e_ret hK rfl rfl rfl ?_
    exact ⟨by rw [k0], hg, hl, fun b b0 b1 => hf b b0 (by omega), hi, by rw [e76]; exact o1, by rw [e76]; exact o2, fun e0 => absurd (k0.symm.trans e0) (by decide)⟩
  · rw [show clr 2 1 (sp_open W t q).1 (sp_open W t q).2.1 = (4, 1) from by rw [k0]; rfl]
    refine Or.inr ⟨rfl, by decide, by decide, 17, rfl, ?_⟩
    show mv_Ev _ _ 17 _ _ _ _ _
    refine e_step (pc' := 19) hK rfl rfl rfl ?_
    try simp only [List.set_cons_zero, List.set_cons_succ]
    refine e_step (pc' := 20) hK rfl rfl rfl ?_
    refine e_ret hK rfl rfl rfl ?_
    exact ⟨by rw [k0], hg, hl, fun b b0 b1 => hf b b0 (by omega), hi, by rw [e76]; exact o1, by rw [e76]; exact o2, fun e0 => absurd (k0.symm.trans e0) (by decide)⟩
set_option maxRecDepth 10000 in
theorem w_forget  {m o s_ : Nat} {W : wt} (hL : LtA m h W) (o1 : (h 276).1 = 13) (o2 : (h 276).2.1 = 1)  : mv_Cl sc q_Law_forget [(2, 0), (2, 276)] (m, o, s_) h (LX (sp_forget W) (m, o, s_) h) := by
  have a0 : (h 0).1 = 0 := hL.1.1.1
  show mv_Ev sc 197 0 [(2, 0), (2, 276), (5, 0)] [] (m, o, s_) h _
  have hK : (mv_m 197).1 = kc_Law_forget := rfl
  refine e_step (pc' := 1) hK rfl rfl rfl ?_
  refine e_step (pc' := 2) hK rfl rfl rfl ?_
  refine e_step (pc' := 3) hK rfl rfl rfl ?_
  refine e_callH (z := 65) (vs := [(2, 0)]) (r := [(0, 0), (2, 276)]) hK rfl rfl rfl rfl rfl (Nat.le_of_ble_eq_true rfl) (decide_eq_true a0) (Nat.le_of_ble_eq_true rfl) (by decide) rfl rfl (lf_forget hL) ?_
  rintro _ c1 h1 ⟨rfl, hg, hl, hf, hi⟩
  have e76 : h1 276 = h 276 := hf 276 (by omega) (by omega)
  rcases kk_forget W with k0 | k0
  · rw [show clr 1 9 (sp_forget W).1 (sp_forget W).2.1 = (0, (sp_forget W).2.1) from by rw [k0]; rfl]
    refine Or.inl ⟨by show (0 : Nat) ≠ 4; decide, ?_⟩
    rw [if_neg (by show ¬ (0 : Nat) = 3; decide)]
    show mv_Ev _ _ 6 _ _ _ _ _
    refine e_i2l (pc' := 7) hK rfl (by first | omega | assumption) rfl ?_
    refine e_last (pc' := 8) hK rfl (by simp only [e76, o1, o2]) (by first | omega | assumption) (by (try simp only [e76, o1, o2]); first | omega | assumption) rfl ?_
    refine e_goto (t := 14) hK rfl (by decide) ?_
    refine e_step (pc' := 15) hK rfl rfl rfl ?_
    refine e_ret hK rfl rfl rfl ?_
    exact ⟨by rw [k0], hg, hl.o76, fun b b0 b1 => (uo_n (by omega)).trans (hf b b0 (by omega)), hi, by rw [uo_e rfl]; dsimp only; rw [e76]; exact o1, by rw [uo_e rfl]; dsimp only; rw [e76]; exact o2, fun _ => by { rw [uo_e rfl]; dsimp only; exact up_s }⟩
  · rw [show clr 1 9 (sp_forget W).1 (sp_forget W).2.1 = (4, 1) from by rw [k0]; rfl]
    refine Or.inr ⟨rfl, by decide, by decide, 11, rfl, ?_⟩
    show mv_Ev _ _ 11 _ _ _ _ _
    refine e_step (pc' := 12) hK rfl rfl rfl ?_
    try simp only [List.set_cons_zero, List.set_cons_succ]
    refine e_step (pc' := 13) hK rfl rfl rfl ?_
    refine e_ret hK rfl rfl rfl ?_
    exact ⟨by rw [k0], hg, hl, fun b b0 b1 => hf b b0 (by omega), hi, by rw [e76]; exact o1, by rw [e76]; exact o2, fun e0 => absurd (k0.symm.trans e0) (by decide)⟩
set_option maxRecDepth 10000 in
theorem w_undo  {m o s_ : Nat} {W : wt} (hL : LtA m h W) (o1 : (h 276).1 = 13) (o2 : (h 276).2.1 = 1)  : mv_Cl sc q_Law_undo [(2, 0), (2, 276)] (m, o, s_) h (LX (sp_undo W) (m, o, s_) h) := by
  have a0 : (h 0).1 = 0 := hL.1.1.1
  show mv_Ev sc 198 0 [(2, 0), (2, 276), (5, 0)] [] (m, o, s_) h _
  have hK : (mv_m 198).1 = kc_Law_undo := rfl
  refine e_step (pc' := 1) hK rfl rfl rfl ?_
  refine e_step (pc' := 2) hK rfl rfl rfl ?_
  refine e_step (pc' := 3) hK rfl rfl rfl ?_
  refine e_callH (z := 66) (vs := [(2, 0)]) (r := [(0, 0), (2, 276)]) hK rfl rfl rfl rfl rfl (Nat.le_of_ble_eq_true rfl) (decide_eq_true a0) (Nat.le_of_ble_eq_true rfl) (by decide) rfl rfl (lf_undo hL) ?_
  rintro _ c1 h1 ⟨rfl, hg, hl, hf, hi⟩
  have e76 : h1 276 = h 276 := hf 276 (by omega) (by omega)
  rcases kk_undo W with k0 | k0
  · rw [show clr 1 9 (sp_undo W).1 (sp_undo W).2.1 = (0, (sp_undo W).2.1) from by rw [k0]; rfl]
    refine Or.inl ⟨by show (0 : Nat) ≠ 4; decide, ?_⟩
    rw [if_neg (by show ¬ (0 : Nat) = 3; decide)]
    show mv_Ev _ _ 6 _ _ _ _ _
    refine e_i2l (pc' := 7) hK rfl (by first | omega | assumption) rfl ?_
    refine e_last (pc' := 8) hK rfl (by simp only [e76, o1, o2]) (by first | omega | assumption) (by (try simp only [e76, o1, o2]); first | omega | assumption) rfl ?_
    refine e_goto (t := 14) hK rfl (by decide) ?_
    refine e_step (pc' := 15) hK rfl rfl rfl ?_
    refine e_ret hK rfl rfl rfl ?_
    exact ⟨by rw [k0], hg, hl.o76, fun b b0 b1 => (uo_n (by omega)).trans (hf b b0 (by omega)), hi, by rw [uo_e rfl]; dsimp only; rw [e76]; exact o1, by rw [uo_e rfl]; dsimp only; rw [e76]; exact o2, fun _ => by { rw [uo_e rfl]; dsimp only; exact up_s }⟩
  · rw [show clr 1 9 (sp_undo W).1 (sp_undo W).2.1 = (4, 1) from by rw [k0]; rfl]
    refine Or.inr ⟨rfl, by decide, by decide, 11, rfl, ?_⟩
    show mv_Ev _ _ 11 _ _ _ _ _
    refine e_step (pc' := 12) hK rfl rfl rfl ?_
    try simp only [List.set_cons_zero, List.set_cons_succ]
    refine e_step (pc' := 13) hK rfl rfl rfl ?_
    refine e_ret hK rfl rfl rfl ?_
    exact ⟨by rw [k0], hg, hl, fun b b0 b1 => hf b b0 (by omega), hi, by rw [e76]; exact o1, by rw [e76]; exact o2, fun e0 => absurd (k0.symm.trans e0) (by decide)⟩
set_option maxRecDepth 10000 in
theorem w_next  {m o s_ : Nat} {W : wt} (hL : LtA m h W) (o1 : (h 276).1 = 13) (o2 : (h 276).2.1 = 1) (i : Int) (hi : mv_i i) (x : Int) (hx : mv_i x) : mv_Cl sc q_Law_next [(2, 0), (0, i), (0, x), (2, 276)] (m, o, s_) h (LX (sp_next W i x) (m, o, s_) h) := by
  have a0 : (h 0).1 = 0 := hL.1.1.1
  show mv_Ev sc 199 0 [(2, 0), (0, i), (0, x), (2, 276), (5, 0)] [] (m, o, s_) h _
  have hK : (mv_m 199).1 = kc_Law_next := rfl
  refine e_step (pc' := 1) hK rfl rfl rfl ?_
  refine e_step (pc' := 2) hK rfl rfl rfl ?_
  refine e_step (pc' := 3) hK rfl rfl rfl ?_
  refine e_step (pc' := 4) hK rfl rfl rfl ?_
  refine e_step (pc' := 5) hK rfl rfl rfl ?_
  refine e_callH (z := 67) (vs := [(2, 0), (0, i), (0, x)]) (r := [(0, 0), (2, 276)]) hK rfl rfl rfl rfl rfl (Nat.le_of_ble_eq_true rfl) (decide_eq_true a0) (Nat.le_of_ble_eq_true rfl) (by decide) rfl rfl (lf_next hL i hi x hx) ?_
  rintro _ c1 h1 ⟨rfl, hg, hl, hf, hi⟩
  have e76 : h1 276 = h 276 := hf 276 (by omega) (by omega)
  rcases kk_next W i x with k0 | k0 | k0
  · rw [show clr 2 0 (sp_next W i x).1 (sp_next W i x).2.1 = (0, (sp_next W i x).2.1) from by rw [k0]; rfl]
    refine Or.inl ⟨by show (0 : Nat) ≠ 4; decide, ?_⟩
    rw [if_neg (by show ¬ (0 : Nat) = 3; decide)]
    show mv_Ev _ _ 8 _ _ _ _ _
    refine e_i2l (pc' := 9) hK rfl (by first | omega | assumption) rfl ?_
    refine e_last (pc' := 10) hK rfl (by simp only [e76, o1, o2]) (by first | omega | assumption) (by (try simp only [e76, o1, o2]); first | omega | assumption) rfl ?_
    refine e_goto (t := 21) hK rfl (by decide) ?_
    refine e_step (pc' := 22) hK rfl rfl rfl ?_
    refine e_ret hK rfl rfl rfl ?_
    exact ⟨by rw [k0], hg, hl.o76, fun b b0 b1 => (uo_n (by omega)).trans (hf b b0 (by omega)), hi, by rw [uo_e rfl]; dsimp only; rw [e76]; exact o1, by rw [uo_e rfl]; dsimp only; rw [e76]; exact o2, fun _ => by { rw [uo_e rfl]; dsimp only; exact up_s }⟩
  · rw [show clr 2 0 (sp_next W i x).1 (sp_next W i x).2.1 = (4, 2) from by rw [k0]; rfl]
    refine Or.inr ⟨rfl, by decide, by decide, 13, rfl, ?_⟩
    show mv_Ev _ _ 13 _ _ _ _ _
    refine e_step (pc' := 15) hK rfl rfl rfl ?_
    try simp only [List.set_cons_zero, List.set_cons_succ]
    refine e_step (pc' := 16) hK rfl rfl rfl ?_
    refine e_ret hK rfl rfl rfl ?_
    exact ⟨by rw [k0], hg, hl, fun b b0 b1 => hf b b0 (by omega), hi, by rw [e76]; exact o1, by rw [e76]; exact o2, fun e0 => absurd (k0.symm.trans e0) (by decide)⟩
  · rw [show clr 2 0 (sp_next W i x).1 (sp_next W i x).2.1 = (4, 0) from by rw [k0]; rfl]
    refine Or.inr ⟨rfl, by decide, by decide, 17, rfl, ?_⟩
    show mv_Ev _ _ 17 _ _ _ _ _
    refine e_step (pc' := 19) hK rfl rfl rfl ?_
    try simp only [List.set_cons_zero, List.set_cons_succ]
    refine e_step (pc' := 20) hK rfl rfl rfl ?_
    refine e_ret hK rfl rfl rfl ?_
    exact ⟨by rw [k0], hg, hl, fun b b0 b1 => hf b b0 (by omega), hi, by rw [e76]; exact o1, by rw [e76]; exact o2, fun e0 => absurd (k0.symm.trans e0) (by decide)⟩
set_option maxRecDepth 10000 in
theorem w_withv  {m o s_ : Nat} {W : wt} (hL : LtA m h W) (o1 : (h 276).1 = 13) (o2 : (h 276).2.1 = 1) (x : Int) (hx : mv_i x) : mv_Cl sc q_Law_withValue [(2, 0), (0, x), (2, 276)] (m, o, s_) h (LX (sp_withv W x) (m, o, s_) h) := by
  have a0 : (h 0).1 = 0 := hL.1.1.1
  show mv_Ev sc 200 0 [(2, 0), (0, x), (2, 276), (5, 0)] [] (m, o, s_) h _
  have hK : (mv_m 200).1 = kc_Law_withValue := rfl
  refine e_step (pc' := 1) hK rfl rfl rfl ?_
  refine e_step (pc' := 2) hK rfl rfl rfl ?_
  refine e_step (pc' := 3) hK rfl rfl rfl ?_
  refine e_step (pc' := 4) hK rfl rfl rfl ?_
  refine e_callH (z := 70) (vs := [(2, 0), (0, x)]) (r := [(0, 0), (2, 276)]) hK rfl rfl rfl rfl rfl (Nat.le_of_ble_eq_true rfl) (decide_eq_true a0) (Nat.le_of_ble_eq_true rfl) (by decide) rfl rfl (lf_withv hL x hx) ?_
  rintro _ c1 h1 ⟨rfl, hg, hl, hf, hi⟩
  have e76 : h1 276 = h 276 := hf 276 (by omega) (by omega)
  rcases kk_withv W x with k0 | k0
  · rw [show clr 0 9 (sp_withv W x).1 (sp_withv W x).2.1 = (0, (sp_withv W x).2.1) from by rw [k0]; rfl]
    refine Or.inl ⟨by show (0 : Nat) ≠ 4; decide, ?_⟩
    rw [if_neg (by show ¬ (0 : Nat) = 3; decide)]
    show mv_Ev _ _ 7 _ _ _ _ _
    refine e_i2l (pc' := 8) hK rfl (by first | omega | assumption) rfl ?_
    refine e_last (pc' := 9) hK rfl (by simp only [e76, o1, o2]) (by first | omega | assumption) (by (try simp only [e76, o1, o2]); first | omega | assumption) rfl ?_
    refine e_goto (t := 15) hK rfl (by decide) ?_
    refine e_step (pc' := 16) hK rfl rfl rfl ?_
    refine e_ret hK rfl rfl rfl ?_
    exact ⟨by rw [k0], hg, hl.o76, fun b b0 b1 => (uo_n (by omega)).trans (hf b b0 (by omega)), hi, by rw [uo_e rfl]; dsimp only; rw [e76]; exact o1, by rw [uo_e rfl]; dsimp only; rw [e76]; exact o2, fun _ => by { rw [uo_e rfl]; dsimp only; exact up_s }⟩
  · rw [show clr 0 9 (sp_withv W x).1 (sp_withv W x).2.1 = (4, 0) from by rw [k0]; rfl]
    refine Or.inr ⟨rfl, by decide, by decide, 12, rfl, ?_⟩
    show mv_Ev _ _ 12 _ _ _ _ _
    refine e_step (pc' := 13) hK rfl rfl rfl ?_
    try simp only [List.set_cons_zero, List.set_cons_succ]
    refine e_step (pc' := 14) hK rfl rfl rfl ?_
    refine e_ret hK rfl rfl rfl ?_
    exact ⟨by rw [k0], hg, hl, fun b b0 b1 => hf b b0 (by omega), hi, by rw [e76]; exact o1, by rw [e76]; exact o2, fun e0 => absurd (k0.symm.trans e0) (by decide)⟩
set_option maxRecDepth 10000 in
theorem w_run  {m o s_ : Nat} {W : wt} (hL : LtA m h W) (o1 : (h 276).1 = 13) (o2 : (h 276).2.1 = 1) (n : Int) (hn : mv_i n) (s : Int) (hs : mv_l s) : mv_Cl sc q_Law_runScript [(2, 0), (0, n), (1, s), (2, 276)] (m, o, s_) h (LX (sp_run W n s) (m, o, s_) h) := by
  have a0 : (h 0).1 = 0 := hL.1.1.1
  show mv_Ev sc 201 0 [(2, 0), (0, n), (1, s), (5, 0), (2, 276), (5, 0)] [] (m, o, s_) h _
  have hK : (mv_m 201).1 = kc_Law_runScript := rfl
  refine e_step (pc' := 2) hK rfl rfl rfl ?_
  refine e_step (pc' := 3) hK rfl rfl rfl ?_
  refine e_step (pc' := 4) hK rfl rfl rfl ?_
  refine e_step (pc' := 5) hK rfl rfl rfl ?_
  refine e_step (pc' := 6) hK rfl rfl rfl ?_
  refine e_callH (z := 71) (vs := [(2, 0), (0, n), (1, s)]) (r := [(0, 0), (2, 276)]) hK rfl rfl rfl rfl rfl (Nat.le_of_ble_eq_true rfl) (decide_eq_true a0) (Nat.le_of_ble_eq_true rfl) (by decide) rfl rfl (lf_run hL n hn s hs) ?_
  rintro _ c1 h1 ⟨rfl, hg, hl, hf, hi⟩
  have e76 : h1 276 = h 276 := hf 276 (by omega) (by omega)
  rcases kk_run W n s with k0 | k0
  · rw [show clr 0 9 (sp_run W n s).1 (sp_run W n s).2.1 = (0, (sp_run W n s).2.1) from by rw [k0]; rfl]
    refine Or.inl ⟨by show (0 : Nat) ≠ 4; decide, ?_⟩
    rw [if_neg (by show ¬ (0 : Nat) = 3; decide)]
    show mv_Ev _ _ 9 _ _ _ _ _
    refine e_i2l (pc' := 10) hK rfl (by first | omega | assumption) rfl ?_
    refine e_last (pc' := 11) hK rfl (by simp only [e76, o1, o2]) (by first | omega | assumption) (by (try simp only [e76, o1, o2]); first | omega | assumption) rfl ?_
    refine e_goto (t := 18) hK rfl (by decide) ?_
    refine e_step (pc' := 19) hK rfl rfl rfl ?_
    refine e_ret hK rfl rfl rfl ?_
    exact ⟨by rw [k0], hg, hl.o76, fun b b0 b1 => (uo_n (by omega)).trans (hf b b0 (by omega)), hi, by rw [uo_e rfl]; dsimp only; rw [e76]; exact o1, by rw [uo_e rfl]; dsimp only; rw [e76]; exact o2, fun _ => by { rw [uo_e rfl]; dsimp only; exact up_s }⟩
  · rw [show clr 0 9 (sp_run W n s).1 (sp_run W n s).2.1 = (4, 0) from by rw [k0]; rfl]
    refine Or.inr ⟨rfl, by decide, by decide, 14, rfl, ?_⟩
    show mv_Ev _ _ 14 _ _ _ _ _
    refine e_step (pc' := 16) hK rfl rfl rfl ?_
    try simp only [List.set_cons_zero, List.set_cons_succ]
    refine e_step (pc' := 17) hK rfl rfl rfl ?_
    refine e_ret hK rfl rfl rfl ?_
    exact ⟨by rw [k0], hg, hl, fun b b0 b1 => hf b b0 (by omega), hi, by rw [e76]; exact o1, by rw [e76]; exact o2, fun e0 => absurd (k0.symm.trans e0) (by decide)⟩
set_option maxRecDepth 10000 in
theorem w_sim  {m o s_ : Nat} {W : wt} (hL : LtA m h W) (o1 : (h 276).1 = 13) (o2 : (h 276).2.1 = 1) (x0 : Int) (hx0 : mv_l x0) (k : Int) (hk : mv_i k) : mv_Cl sc q_Law_simulate [(2, 0), (1, x0), (0, k), (2, 276)] (m, o, s_) h (LX (sp_sim W x0 k) (m, o, s_) h) := by
  have a0 : (h 0).1 = 0 := hL.1.1.1
  show mv_Ev sc 202 0 [(2, 0), (1, x0), (5, 0), (0, k), (2, 276), (5, 0)] [] (m, o, s_) h _
  have hK : (mv_m 202).1 = kc_Law_simulate := rfl
  refine e_step (pc' := 2) hK rfl rfl rfl ?_
  refine e_step (pc' := 3) hK rfl rfl rfl ?_
  refine e_step (pc' := 4) hK rfl rfl rfl ?_
  refine e_step (pc' := 5) hK rfl rfl rfl ?_
  refine e_step (pc' := 6) hK rfl rfl rfl ?_
  refine e_callH (z := 72) (vs := [(2, 0), (1, x0), (0, k)]) (r := [(0, 0), (2, 276)]) hK rfl rfl rfl rfl rfl (Nat.le_of_ble_eq_true rfl) (decide_eq_true a0) (Nat.le_of_ble_eq_true rfl) (by decide) rfl rfl (lf_sim hL x0 hx0 k hk) ?_
  rintro _ c1 h1 ⟨rfl, hg, hl, hf, hi⟩
  have e76 : h1 276 = h 276 := hf 276 (by omega) (by omega)
  rcases kk_sim W x0 k with k0 | k0
  · rw [show clr 0 9 (sp_sim W x0 k).1 (sp_sim W x0 k).2.1 = (0, (sp_sim W x0 k).2.1) from by rw [k0]; rfl]
    refine Or.inl ⟨by show (0 : Nat) ≠ 4; decide, ?_⟩
    rw [if_neg (by show ¬ (0 : Nat) = 3; decide)]
    show mv_Ev _ _ 9 _ _ _ _ _
    refine e_i2l (pc' := 10) hK rfl (by first | omega | assumption) rfl ?_
    refine e_last (pc' := 11) hK rfl (by simp only [e76, o1, o2]) (by first | omega | assumption) (by (try simp only [e76, o1, o2]); first | omega | assumption) rfl ?_
    refine e_goto (t := 18) hK rfl (by decide) ?_
    refine e_step (pc' := 19) hK rfl rfl rfl ?_
    refine e_ret hK rfl rfl rfl ?_
    exact ⟨by rw [k0], hg, hl.o76, fun b b0 b1 => (uo_n (by omega)).trans (hf b b0 (by omega)), hi, by rw [uo_e rfl]; dsimp only; rw [e76]; exact o1, by rw [uo_e rfl]; dsimp only; rw [e76]; exact o2, fun _ => by { rw [uo_e rfl]; dsimp only; exact up_s }⟩
  · rw [show clr 0 9 (sp_sim W x0 k).1 (sp_sim W x0 k).2.1 = (4, 0) from by rw [k0]; rfl]
    refine Or.inr ⟨rfl, by decide, by decide, 14, rfl, ?_⟩
    show mv_Ev _ _ 14 _ _ _ _ _
    refine e_step (pc' := 16) hK rfl rfl rfl ?_
    try simp only [List.set_cons_zero, List.set_cons_succ]
    refine e_step (pc' := 17) hK rfl rfl rfl ?_
    refine e_ret hK rfl rfl rfl ?_
    exact ⟨by rw [k0], hg, hl, fun b b0 b1 => hf b b0 (by omega), hi, by rw [e76]; exact o1, by rw [e76]; exact o2, fun e0 => absurd (k0.symm.trans e0) (by decide)⟩
set_option maxRecDepth 10000 in
theorem w_save  {m o s_ : Nat} {W : wt} (hL : LtA m h W) (o1 : (h 276).1 = 13) (o2 : (h 276).2.1 = 1) (s : Int) (hs : mv_i s) : mv_Cl sc q_Law_save [(2, 0), (0, s), (2, 276)] (m, o, s_) h (LX (sp_save W s) (m, o, s_) h) := by
  have a0 : (h 0).1 = 0 := hL.1.1.1
  show mv_Ev sc 203 0 [(2, 0), (0, s), (2, 276), (5, 0)] [] (m, o, s_) h _
  have hK : (mv_m 203).1 = kc_Law_save := rfl
  refine e_step (pc' := 1) hK rfl rfl rfl ?_
  refine e_step (pc' := 2) hK rfl rfl rfl ?_
  refine e_step (pc' := 3) hK rfl rfl rfl ?_
  refine e_step (pc' := 4) hK rfl rfl rfl ?_
  refine e_callH (z := 75) (vs := [(2, 0), (0, s)]) (r := [(0, 0), (2, 276)]) hK rfl rfl rfl rfl rfl (Nat.le_of_ble_eq_true rfl) (decide_eq_true a0) (Nat.le_of_ble_eq_true rfl) (by decide) rfl rfl (lf_save hL s hs) ?_
  rintro _ c1 h1 ⟨rfl, hg, hl, hf, hi⟩
  have e76 : h1 276 = h 276 := hf 276 (by omega) (by omega)
  rcases kk_save W s with k0 | k0
  · rw [show clr 2 9 (sp_save W s).1 (sp_save W s).2.1 = (0, (sp_save W s).2.1) from by rw [k0]; rfl]
    refine Or.inl ⟨by show (0 : Nat) ≠ 4; decide, ?_⟩
    rw [if_neg (by show ¬ (0 : Nat) = 3; decide)]
    show mv_Ev _ _ 7 _ _ _ _ _
    refine e_i2l (pc' := 8) hK rfl (by first | omega | assumption) rfl ?_
    refine e_last (pc' := 9) hK rfl (by simp only [e76, o1, o2]) (by first | omega | assumption) (by (try simp only [e76, o1, o2]); first | omega | assumption) rfl ?_
    refine e_goto (t := 15) hK rfl (by decide) ?_
    refine e_step (pc' := 16) hK rfl rfl rfl ?_
    refine e_ret hK rfl rfl rfl ?_
    exact ⟨by rw [k0], hg, hl.o76, fun b b0 b1 => (uo_n (by omega)).trans (hf b b0 (by omega)), hi, by rw [uo_e rfl]; dsimp only; rw [e76]; exact o1, by rw [uo_e rfl]; dsimp only; rw [e76]; exact o2, fun _ => by { rw [uo_e rfl]; dsimp only; exact up_s }⟩
  · rw [show clr 2 9 (sp_save W s).1 (sp_save W s).2.1 = (4, 2) from by rw [k0]; rfl]
    refine Or.inr ⟨rfl, by decide, by decide, 12, rfl, ?_⟩
    show mv_Ev _ _ 12 _ _ _ _ _
    refine e_step (pc' := 13) hK rfl rfl rfl ?_
    try simp only [List.set_cons_zero, List.set_cons_succ]
    refine e_step (pc' := 14) hK rfl rfl rfl ?_
    refine e_ret hK rfl rfl rfl ?_
    exact ⟨by rw [k0], hg, hl, fun b b0 b1 => hf b b0 (by omega), hi, by rw [e76]; exact o1, by rw [e76]; exact o2, fun e0 => absurd (k0.symm.trans e0) (by decide)⟩
set_option maxRecDepth 10000 in
theorem w_restore  {m o s_ : Nat} {W : wt} (hL : LtA m h W) (o1 : (h 276).1 = 13) (o2 : (h 276).2.1 = 1) (s : Int) (hs : mv_i s) : mv_Cl sc q_Law_restore [(2, 0), (0, s), (2, 276)] (m, o, s_) h (LX (sp_restore W s) (m, o, s_) h) := by
  have a0 : (h 0).1 = 0 := hL.1.1.1
  show mv_Ev sc 204 0 [(2, 0), (0, s), (2, 276), (5, 0)] [] (m, o, s_) h _
  have hK : (mv_m 204).1 = kc_Law_restore := rfl
  refine e_step (pc' := 1) hK rfl rfl rfl ?_
  refine e_step (pc' := 2) hK rfl rfl rfl ?_
  refine e_step (pc' := 3) hK rfl rfl rfl ?_
  refine e_step (pc' := 4) hK rfl rfl rfl ?_
  refine e_callH (z := 77) (vs := [(2, 0), (0, s)]) (r := [(0, 0), (2, 276)]) hK rfl rfl rfl rfl rfl (Nat.le_of_ble_eq_true rfl) (decide_eq_true a0) (Nat.le_of_ble_eq_true rfl) (by decide) rfl rfl (lf_restore hL s hs) ?_
  rintro _ c1 h1 ⟨rfl, hg, hl, hf, hi⟩
  have e76 : h1 276 = h 276 := hf 276 (by omega) (by omega)
  rcases kk_restore W s with k0 | k0 | k0
  · rw [show clr 2 1 (sp_restore W s).1 (sp_restore W s).2.1 = (0, (sp_restore W s).2.1) from by rw [k0]; rfl]
    refine Or.inl ⟨by show (0 : Nat) ≠ 4; decide, ?_⟩
    rw [if_neg (by show ¬ (0 : Nat) = 3; decide)]
    show mv_Ev _ _ 7 _ _ _ _ _
    refine e_i2l (pc' := 8) hK rfl (by first | omega | assumption) rfl ?_
    refine e_last (pc' := 9) hK rfl (by simp only [e76, o1, o2]) (by first | omega | assumption) (by (try simp only [e76, o1, o2]); first | omega | assumption) rfl ?_
    refine e_goto (t := 18) hK rfl (by decide) ?_
    refine e_step (pc' := 19) hK rfl rfl rfl ?_
    refine e_ret hK rfl rfl rfl ?_
    exact ⟨by rw [k0], hg, hl.o76, fun b b0 b1 => (uo_n (by omega)).trans (hf b b0 (by omega)), hi, by rw [uo_e rfl]; dsimp only; rw [e76]; exact o1, by rw [uo_e rfl]; dsimp only; rw [e76]; exact o2, fun _ => by { rw [uo_e rfl]; dsimp only; exact up_s }⟩
  · rw [show clr 2 1 (sp_restore W s).1 (sp_restore W s).2.1 = (4, 2) from by rw [k0]; rfl]
    refine Or.inr ⟨rfl, by decide, by decide, 12, rfl, ?_⟩
    show mv_Ev _ _ 12 _ _ _ _ _
    refine e_step (pc' := 13) hK rfl rfl rfl ?_
    try simp only [List.set_cons_zero, List.set_cons_succ]
    refine e_step (pc' := 14) hK rfl rfl rfl ?_
    refine e_ret hK rfl rfl rfl ?_
    exact ⟨by rw [k0], hg, hl, fun b b0 b1 => hf b b0 (by omega), hi, by rw [e76]; exact o1, by rw [e76]; exact o2, fun e0 => absurd (k0.symm.trans e0) (by decide)⟩
  · rw [show clr 2 1 (sp_restore W s).1 (sp_restore W s).2.1 = (4, 1) from by rw [k0]; rfl]
    refine Or.inr ⟨rfl, by decide, by decide, 15, rfl, ?_⟩
    show mv_Ev _ _ 15 _ _ _ _ _
    refine e_step (pc' := 16) hK rfl rfl rfl ?_
    try simp only [List.set_cons_zero, List.set_cons_succ]
    refine e_step (pc' := 17) hK rfl rfl rfl ?_
    refine e_ret hK rfl rfl rfl ?_
    exact ⟨by rw [k0], hg, hl, fun b b0 b1 => hf b b0 (by omega), hi, by rw [e76]; exact o1, by rw [e76]; exact o2, fun e0 => absurd (k0.symm.trans e0) (by decide)⟩
end GN
