/-! any one instruction; what the counters do; the throws -/
section DSP
variable {p : Program} {l : Launch} {e : Env} {R : Room} {s : State} {m : MethodId} {args : Array Value} {below : List Frame} {meth : Method} {cd : Code} {H : Heap} {locs : List Loc} {cells slots : Nat} {Q : State → Prop}
variable {y pc : Nat} {D : va_G} {bs base L : Nat} {xs : Nat → Int32} {ι : Int → Nat} {n : Nat} {h : mv_H} {lsr : Array Slot} {str : List Value} {ls st : List mv_V} {i : Instr} {a : Int}
theorem mv_stepW {c c' : mv_C} {h' : mv_H} {pc' : Nat} {ls' st' : List mv_V} (hLs : L < 2147483648) (X : mv_Cx p l m args meth cd y D bs base L xs s) (hg : mv_get (mv_m y).1 pc = some (i, a)) (hs : mv_step ((L : Int), fun j => (xs j.toNat).toInt) pc i a ls st c h = some (pc', ls', st', c', h'))
    (rel : mv_Rl D s bs base ι c.1 h H locs (mv_m y).2.2.1 lsr str ls st) (hcs : cells + (c'.2.1 - c.2.1) ≤ R.cells) (hss : slots + (c'.2.2 - c.2.2) ≤ R.slots)
    (K : ∀ (H1 : Heap) (locs1 : List Loc) (ι1 : Int → Nat) (lsr1 : Array Slot) (str1 : List Value), mv_Rl D s bs base ι1 c'.1 h' H1 locs1 (mv_m y).2.2.1 lsr1 str1 ls' st' → (∀ j : Int, 0 ≤ j → j < c.1 → ι1 j = ι j) → W p l e R s m args below meth cd H1 locs1 (cells + (c'.2.1 - c.2.1)) (slots + (c'.2.2 - c.2.2)) Q (F0 m pc' lsr1 str1)) : W p l e R s m args below meth cd H locs cells slots Q (F0 m pc lsr str) := by
  cases i with
  | iconst _ => exact mv_w_iconst X hg hs rel hcs hss K
  | bipush _ => exact mv_w_bipush X hg hs rel hcs hss K
  | sipush _ => exact mv_w_sipush X hg hs rel hcs hss K
  | lconst _ => exact mv_w_lconst X hg hs rel hcs hss K
  | ldc _ => exact mv_w_ldc X hg hs rel hcs hss K
  | ldc_w _ => exact mv_w_ldc_w X hg hs rel hcs hss K
  | ldc2_w _ => exact mv_w_ldc2_w X hg hs rel hcs hss K
  | iload _ => exact mv_w_iload X hg hs rel hcs hss K
  | iload_n _ => exact mv_w_iload_n X hg hs rel hcs hss K
  | lload _ => exact mv_w_lload X hg hs rel hcs hss K
  | lload_n _ => exact mv_w_lload_n X hg hs rel hcs hss K
  | aload _ => exact mv_w_aload X hg hs rel hcs hss K
  | aload_n _ => exact mv_w_aload_n X hg hs rel hcs hss K
  | istore _ => exact mv_w_istore X hg hs rel hcs hss K
  | istore_n _ => exact mv_w_istore_n X hg hs rel hcs hss K
  | lstore _ => exact mv_w_lstore X hg hs rel hcs hss K
  | lstore_n _ => exact mv_w_lstore_n X hg hs rel hcs hss K
  | astore _ => exact mv_w_astore X hg hs rel hcs hss K
  | astore_n _ => exact mv_w_astore_n X hg hs rel hcs hss K
  | iinc _ _ => exact mv_w_iinc X hg hs rel hcs hss K
  | iadd  => exact mv_w_iadd X hg hs rel hcs hss K
  | isub  => exact mv_w_isub X hg hs rel hcs hss K
  | imul  => exact mv_w_imul X hg hs rel hcs hss K
  | ladd  => exact mv_w_ladd X hg hs rel hcs hss K
  | lsub  => exact mv_w_lsub X hg hs rel hcs hss K
  | lmul  => exact mv_w_lmul X hg hs rel hcs hss K
  | idiv  => exact mv_w_idiv X hg hs rel hcs hss K
  | irem  => exact mv_w_irem X hg hs rel hcs hss K
  | ldiv  => exact mv_w_ldiv X hg hs rel hcs hss K
  | lrem  => exact mv_w_lrem X hg hs rel hcs hss K
  | ishl  => exact mv_w_ishl X hg hs rel hcs hss K
  | ishr  => exact mv_w_ishr X hg hs rel hcs hss K
  | ior  => exact mv_w_ior X hg hs rel hcs hss K
  | ixor  => exact mv_w_ixor X hg hs rel hcs hss K
  | iand  => exact mv_w_iand X hg hs rel hcs hss K
  | land  => exact mv_w_land X hg hs rel hcs hss K
  | lor  => exact mv_w_lor X hg hs rel hcs hss K
  | lcmp  => exact mv_w_lcmp X hg hs rel hcs hss K
  | lshl  => exact mv_w_lshl X hg hs rel hcs hss K
  | lushr  => exact mv_w_lushr X hg hs rel hcs hss K
  | i2l  => exact mv_w_i2l X hg hs rel hcs hss K
  | l2i  => exact mv_w_l2i X hg hs rel hcs hss K
  | i2c  => exact mv_w_i2c X hg hs rel hcs hss K
  | pop  => exact mv_w_pop X hg hs rel hcs hss K
  | dup  => exact mv_w_dup X hg hs rel hcs hss K
  | dup2  => exact mv_w_dup2 X hg hs rel hcs hss K
  | goto _ => exact mv_w_goto X hg hs rel hcs hss K
  | ifCond _ _ => exact mv_w_ifCond X hg hs rel hcs hss K
  | if_icmp _ _ => exact mv_w_if_icmp X hg hs rel hcs hss K
  | tableswitch _ _ _ _ => exact mv_w_tableswitch X hg hs rel hcs hss K
  | getfield _ => exact mv_w_getfield X hg hs rel hcs hss K
  | putfield _ => exact mv_w_putfield X hg hs rel hcs hss K
  | caload  => exact mv_w_caload X hg hs rel hcs hss K
  | baload  => exact mv_w_baload X hg hs rel hcs hss K
  | laload  => exact mv_w_laload X hg hs rel hcs hss K
  | iaload  => exact mv_w_iaload hLs X hg hs rel hcs hss K
  | aaload  => exact mv_w_aaload X hg hs rel hcs hss K
  | arraylength  => exact mv_w_arraylength X hg hs rel hcs hss K
  | iastore  => exact mv_w_iastore X hg hs rel hcs hss K
  | castore  => exact mv_w_castore X hg hs rel hcs hss K
  | bastore  => exact mv_w_bastore X hg hs rel hcs hss K
  | lastore  => exact mv_w_lastore X hg hs rel hcs hss K
  | aastore  => exact mv_w_aastore X hg hs rel hcs hss K
  | new _ => exact mv_w_new X hg hs rel hcs hss K
  | newarray _ => exact mv_w_newarray X hg hs rel hcs hss K
  | anewarray _ => exact mv_w_anewarray X hg hs rel hcs hss K
  | _ => simp [mv_step] at hs
theorem mv_step_mono {sc : Int × (Int → Int)} {c c' : mv_C} {h' : mv_H} {pc' : Nat} {ls' st' : List mv_V} (hs : mv_step sc pc i a ls st c h = some (pc', ls', st', c', h')) : c.1 ≤ c'.1 ∧ c.2.1 ≤ c'.2.1 ∧ c.2.2 ≤ c'.2.2 := by
  have key : c' = c ∨ ∃ k, c' = (c.1 + 1, c.2.1 + 1, c.2.2 + k) := by
    cases i <;> simp only [mv_step, mv_b2, mv_j2, mv_ld, mv_jmp] at hs <;> (repeat' split at hs) <;>
      first
      | (cases hs; done)
      | (cases hs; exact Or.inl rfl)
      | (cases hs; exact Or.inr ⟨_, rfl⟩)
      | (obtain ⟨l1, h1, h2⟩ := Option.map_eq_some_iff.mp hs; cases h2; exact Or.inl rfl)
  rcases key with rfl | ⟨k, rfl⟩
  · exact ⟨Nat.le_refl _, Nat.le_refl _, Nat.le_refl _⟩
  · exact ⟨Nat.le_add_right _ _, Nat.le_add_right _ _, Nat.le_add_right _ _⟩
end DSP
theorem mv_run_mono {sc : Int × (Int → Int)} : ∀ (N y pc : Nat) (ls st : List mv_V) (c : mv_C) (h : mv_H) (r : mv_R) (c' : mv_C) (h' : mv_H), mv_run sc N y pc ls st c h = some (r, c', h') → c.1 ≤ c'.1 ∧ c.2.1 ≤ c'.2.1 ∧ c.2.2 ≤ c'.2.2 := by
  intro N
  induction N with
  | zero => intro y pc ls st c h r c' h' hr; cases hr
  | succ N ih =>
    intro y pc ls st c h r c' h' hr
    rw [mv_run] at hr
    split at hr
    · cases hr
    · split at hr
      · split at hr
        · rename_i hs9
          have h1 := mv_step_mono hs9
          have h2 := ih _ _ _ _ _ _ _ _ _ hr
          omega
        · cases hr
      · split at hr
        · split at hr
          · rename_i hs9
            have h1 := ih _ _ _ _ _ _ _ _ _ hs9
            split at hr
            · split at hr
              · split at hr
                · have h2 := ih _ _ _ _ _ _ _ _ _ hr
                  omega
                · split at hr
                  · cases hr; exact h1
                  · cases hr
              · cases hr
            · split at hr
              · have h2 := ih _ _ _ _ _ _ _ _ _ hr
                omega
              · have h2 := ih _ _ _ _ _ _ _ _ _ hr
                omega
          · cases hr
        · cases hr
      · obtain ⟨l1, h1, h2⟩ := Option.map_eq_some_iff.mp hr
        cases h2
        exact ⟨Nat.le_refl _, Nat.le_refl _, Nat.le_refl _⟩
      · split at hr
        · cases hr
          exact ⟨Nat.le_refl _, Nat.le_add_right _ _, Nat.le_add_right _ _⟩
        · cases hr
/-- the throws: method, pc, whether the text's index is wide, the index, the text, the class of the exception -/
def mv_thr : List (Nat × Nat × Bool × Nat × String × Nat) := [(50, 11, false, 60, "no character code", 0),
  (50, 33, false, 67, "the text is full", 1),
  (51, 114, false, 101, "no such number of the log", 0),
  (52, 99, false, 126, "no such number of a line", 0),
  (53, 15, true, 280, "no such line", 2),
  (54, 9, false, 128, "the index is negative", 0),
  (56, 12, true, 285, "no such piece", 2),
  (57, 110, false, 158, "no such number of a template", 0),
  (58, 15, true, 283, "no such template", 2),
  (59, 94, false, 174, "no such number of a piece", 0),
  (61, 14, false, 179, "the text is not a line", 1),
  (61, 43, false, 184, "there is no room for the line", 1),
  (62, 30, false, 184, "there is no room for the line", 1),
  (64, 29, false, 204, "the piece is no fixed word", 1),
  (65, 14, false, 214, "the lines need too many templates", 1),
  (66, 10, false, 222, "no state is remembered", 1),
  (67, 9, false, 128, "the index is negative", 0),
  (70, 10, false, 238, "no value of a number", 0),
  (71, 10, false, 243, "no such number of commands", 0),
  (71, 36, false, 251, "the script has not the digits of its commands", 0),
  (72, 11, true, 259, "no such number of lines", 0),
  (76, 9, true, 287, "no such save slot", 2),
  (77, 13, true, 273, "nothing has been saved in the slot", 1)]
def mv_tk (y pc : Nat) (a : Int) : Bool := mv_thr.any fun q => Nat.beq q.1 y && Nat.beq q.2.1 pc && decide ((q.2.2.2.2.2 : Int) = -1 - a)
set_option maxRecDepth 100000 in
theorem mv_tk0 : (List.range 206).all (fun y => (mv_m y).1.all fun q => match q.2.1 with
  | .new _ => decide (0 ≤ q.2.2) || mv_tk y q.1 q.2.2
  | _ => true) = true := by decide +kernel
def mv_tdk (q : Nat × Nat × Bool × Nat × String × Nat) : Bool := decide (decode (mv_by q.1) (q.2.1 + 3) = .ok (.dup, 1)) && decide (q.2.2.2.2.2 < 3) && decide (mv_ow q.1 = "LineTemplates") && decide ((q.2.2.2.1, q.2.2.2.2.1) ∈ mv_str) && decide (6 ≤ mv_fr q.1) && decide (90 ≤ mv_lo q.1) &&
  (if q.2.2.1 then decide (decode (mv_by q.1) (q.2.1 + 4) = .ok (.ldc_w q.2.2.2.1, 3)) && decide (decode (mv_by q.1) (q.2.1 + 7) = .ok (.invokespecial (mv_xi q.2.2.2.2.2), 3)) && decide (decode (mv_by q.1) (q.2.1 + 10) = .ok (.athrow, 1))
   else decide (decode (mv_by q.1) (q.2.1 + 4) = .ok (.ldc q.2.2.2.1, 2)) && decide (decode (mv_by q.1) (q.2.1 + 6) = .ok (.invokespecial (mv_xi q.2.2.2.2.2), 3)) && decide (decode (mv_by q.1) (q.2.1 + 9) = .ok (.athrow, 1)))
set_option maxRecDepth 100000 in
theorem mv_td0 : mv_thr.all mv_tdk = true := by decide +kernel
def mv_xw (E : Nat) : Bool := (vx_atS "LineTemplates" (mv_xi E) (mv_xn E) mv_xns).all (fun w => decide (w ∈ lw_tbl) && (goodWord w || mv_nw w) && vx_ot w) && Bundle.fit (mv_xn E) && mv_xns.all Bundle.fit && decide (Cond.initialized (mv_xn E) ∈ mv_G)
set_option maxRecDepth 100000 in
theorem mv_xw0 : mv_xw 0 = true ∧ mv_xw 1 = true ∧ mv_xw 2 = true := by decide +kernel
theorem mv_rk0 : (List.range 206).all (fun y => mv_rkt (mv_m y).2.2.2.1 (mv_rt y)) = true := by decide +kernel
theorem mv_pf0 : (List.range 206).all (fun y => y == 3 || plainFor (mv_y y)) = true := by decide +kernel
theorem mv_hd0 : (List.range 206).all (fun y => decide ((mv_m y).2.2.2.2.2 = (mv_hh y).map fun q => (q.1, q.2.1, q.2.2.1, mv_ce q.2.2.2)) && (mv_hh y).all (fun q => decide (q.2.2.2 = 13) || decide (q.2.2.2 = 15) || decide (q.2.2.2 = 24)) && (decide (mv_ow y = "LineTemplatesLaw") || (mv_hh y).isEmpty)) = true := by decide +kernel
theorem mv_cw0 : Cond.classLink "LineTemplatesLaw" 13 (mv_xn 0) ∈ mv_G ∧ Cond.classLink "LineTemplatesLaw" 15 (mv_xn 1) ∈ mv_G ∧ Cond.classLink "LineTemplatesLaw" 24 (mv_xn 2) ∈ mv_G ∧ Cond.castable (mv_xn 0) (mv_xn 0) ∈ lw_tbl ∧ Cond.castable (mv_xn 1) (mv_xn 1) ∈ lw_tbl ∧ Cond.castable (mv_xn 2) (mv_xn 2) ∈ lw_tbl := by decide +kernel
theorem mv_ob0 : mv_y 3 = Lib.objectInit ∧ Cond.instanceMethod Lib.objectInit ∈ mv_G ∧ Cond.code Lib.objectInit ⟨#[0xb1]⟩ 1 none ∈ mv_G ∧ mv_fr 3 = 0 := by decide +kernel
