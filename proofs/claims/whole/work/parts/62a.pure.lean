/-! the face: what is kept (written by wip/whole/m62.py) -/
section KP
variable {h h0 h1 h2 h' : mv_H} {m : Nat} {W : wt} {A B : lg}
theorem LtS.tr (hs : LtS h) (hw : StW h' 170) (hf : ∀ b : Int, (b < 170 ∨ 174 < b) → h' b = h b) : LtS h' :=
  ⟨hs.1.kq (fun b _ _ => hf b (by omega)), fun k k0 k1 => (hs.2.1 k k0 k1).kq (fun b _ _ => hf b (by omega)), hw, hs.2.2.2.kq (fun b hb => hf b (by omega))⟩
theorem LtS.tr2 (hs : LtS h) (hw : StW h' 170) (hw2 : StW h' 175) (hf : ∀ b : Int, (b < 170 ∨ 179 < b) → h' b = h b) : LtS h' :=
  ⟨hs.1.kq (fun b _ _ => hf b (by omega)), fun k k0 k1 => (hs.2.1 k k0 k1).kq (fun b _ _ => hf b (by omega)), hw, hw2⟩
theorem LtS.rd (hs : LtS h) (hw : LnW h' 8) (hf : mv_frl h h' 8) : LtS h' :=
  ⟨hw, fun k k0 k1 => (hs.2.1 k k0 k1).kq (fun b _ _ => hf b (by omega)), hs.2.2.1.kq (fun b hb => hf b (by omega)), hs.2.2.2.kq (fun b hb => hf b (by omega))⟩
theorem LtA.tr (hL : LtA m h W) (hw : StW h' 170) (hf : ∀ b : Int, (b < 170 ∨ 174 < b) → h' b = h b) : LtA m h' W := ⟨hL.1.kq (fun b hb => hf b (by unfold csb at hb; omega)), hL.2.tr hw hf⟩
theorem LtA.tr2 (hL : LtA m h W) (hw : StW h' 170) (hw2 : StW h' 175) (hf : ∀ b : Int, (b < 170 ∨ 179 < b) → h' b = h b) : LtA m h' W := ⟨hL.1.kq (fun b hb => hf b (by unfold csb at hb; omega)), hL.2.tr2 hw hw2 hf⟩
theorem LtA.rd (hL : LtA m h W) (hw : LnW h' 8) (hf : mv_frl h h' 8) : LtA m h' W := ⟨hL.1.kq (fun b hb => hf b (by unfold csb at hb; omega)), hL.2.rd hw hf⟩
/-- the elder log remembered, the present one changed -/
theorem LtA.act (hL : LtA m h W) (hH1 : HsA h1 (hs_n (wn W)) (hs_g (wn W) (wg W) (wA W))) (hf1 : ∀ b : Int, (b < 180 ∨ 251 < b) → h1 b = h b) (hA2 : StA h2 165 B) (hf2 : ∀ b : Int, (b < 165 ∨ 169 < b) → h2 b = h1 b) (hr : gR m B) : LtA m h2 (w_R W B) := by
  obtain ⟨⟨a1, a2, a3, a4, a5, a6, a7, a8, a9, a10, a11⟩, hs⟩ := hL
  have hf : ∀ b : Int, (b < 165 ∨ (169 < b ∧ b < 180) ∨ 251 < b) → h2 b = h b := fun b hb => (hf2 b (by omega)).trans (hf1 b (by omega))
  have hg := gR_hs (A := wA W) a4.2.1 a10 a9
  refine ⟨⟨a1.kq (fun b hb => hf b (by omega)), a2.kq (fun b hb => hf b (by omega)), hA2, hH1.kq hg (fun b hb => hf2 b (by omega)), a5.kq (fun b hb => hf b (by omega)), a6.kq (fun b hb => hf b (by omega)), fun s hs => ⟨?_, fun e => ((a7 s hs).2 e).kq (a11 s hs e) (fun b hb => hf b (by omega))⟩, a8, hr, hg, a11⟩, hs.kq (fun b hb => hf b (by omega))⟩
  rw [hf 263 (by omega)]; exact (a7 s hs).1
theorem LtA.act' (hL : LtA m h W) (hf1 : ∀ b : Int, (b < 180 ∨ 251 < b) → h1 b = h b) : StA h1 165 (wA W) := by
  obtain ⟨⟨a1, a2, a3, a4, a5, a6, a7, a8, a9, a10, a11⟩, hs⟩ := hL
  exact a3.kq a9 (fun b hb => hf1 b (by omega))
end KP
section TG
variable {n : Nat} {f : Int → Int} {l p q : Int} {y : xt} {A : lg} {t : Int}
/-- a text with a line's name -/
def xtg (n : Nat) (f : Int → Int) (l : Int) : xt := (n, mv_up f (-1) l)
theorem px_tg : ∀ k : Nat, px (mv_up f (-1) l) k = px f k := fun k => px_ext (fun i _ => up_n (by omega))
theorem xn_tg : xn (xtg n f l) = xn (n, f) := by unfold xn xtg; rw [px_tg]
theorem xk_tg : xk (xtg n f l) p = xk (n, f) p := by unfold xk xtg; rw [px_tg]
theorem xz_tg : xz (xtg n f l) p = xz (n, f) p := by unfold xz xtg; rw [px_tg]
theorem xs_tg : xs (xtg n f l) p = xs (n, f) p := by unfold xs xtg; rw [px_tg]
theorem xv_tg : xv (xtg n f l) p = xv (n, f) p := by unfold xv xtg; rw [px_tg]
theorem xok_tg : xok (xtg n f l) ↔ xok (n, f) := by
  unfold xok px_ok xtg
  constructor
  · intro h i hi
    have := h i hi
    dsimp only at this ⊢
    rw [px_tg, up_n (by omega)] at this; exact this
  · intro h i hi
    have := h i hi
    dsimp only at this ⊢
    rw [px_tg, up_n (by omega)]; exact this
theorem xs_0 {x : xt} (hx : xok x) (p : Int) : 0 ≤ xs x p := (xs_b hx p).1
theorem xw_tg (hx : xok (n, f)) : xw (xtg n f l) p y q = xw (n, f) p y q := by
  have e : xw (xtg n f l) p y q = true ↔ xw (n, f) p y q = true := by
    rw [xw_iff, xw_iff, xn_tg, xz_tg, xs_tg]
    have h0 := xs_0 hx p
    constructor
    · intro ⟨a, b, d⟩
      refine ⟨a, b, fun j hj => ?_⟩
      have := d j hj
      rw [show (xtg n f l).2 = mv_up f (-1) l from rfl, up_n (by omega)] at this; exact this
    · intro ⟨a, b, d⟩
      refine ⟨a, b, fun j hj => ?_⟩
      rw [show (xtg n f l).2 = mv_up f (-1) l from rfl, up_n (by omega)]; exact d j hj
  cases h1 : xw (n, f) p y q with
  | true => exact e.mpr h1
  | false =>
    cases h2 : xw (xtg n f l) p y q with
    | false => rfl
    | true => rw [e.mp h2] at h1; cases h1
theorem gf_tg (hx : xok (n, f)) : gf A (xtg n f l) t = gf A (n, f) t := by
  unfold gf
  rw [xn_tg]
  have : (fun p => decide (xk (xtg n f l) p = xk (gs A t) p) && (decide (xk (xtg n f l) p = 3) || go A t p || xw (xtg n f l) p (gs A t) p)) = (fun p => decide (xk (n, f) p = xk (gs A t) p) && (decide (xk (n, f) p = 3) || go A t p || xw (n, f) p (gs A t) p)) := by
    funext p; rw [xk_tg, xw_tg hx]
  rw [this]
theorem gff_tg (hx : xok (n, f)) : gff A (xtg n f l) = gff A (n, f) := lf_ext (fun i _ => gf_tg hx)
theorem gtf_tg (hx : xok (n, f)) : gtf A (xtg n f l) = gtf A (n, f) := by unfold gtf; rw [gff_tg hx]
theorem gnw_tg (hx : xok (n, f)) : gnw A (xtg n f l) = gnw A (n, f) := by unfold gnw; rw [gff_tg hx]
theorem csm_tg {i : Int} (hx : xok (n, f)) : csm A (xtg n f l) p i = csm A (n, f) p i := by unfold csm; rw [xk_tg, xv_tg, xw_tg hx]
theorem col_tg {pl : Int} (hx : xok (n, f)) : col A (xtg n f l) t pl = col A (n, f) t pl := by
  unfold col
  rw [xn_tg]
  refine congrArg (fun z => 1 + z) (lsum_ext (fun i _ => ?_))
  unfold cop con cz
  have e : (fun i' => decide (i' < pl) && decide (gt A i' = t) && csm A (xtg n f l) i i') = (fun i' => decide (i' < pl) && decide (gt A i' = t) && csm A (n, f) i i') := by funext i'; rw [csm_tg hx]
  rw [xk_tg, xz_tg, xv_tg, e]
theorem LnA_tg {h : mv_H} (hl : LnA h l n f) : LnA h l n (mv_up f (-1) l) := by
  obtain ⟨b1, b2, b3, b4, b5, b6⟩ := hl
  refine ⟨b1, b2, ?_, ?_, fun k k0 k1 => ?_, ?_⟩
  · rw [px_tg]; exact b3
  · exact (xok_tg (n := n) (f := f) (l := l)).mpr b4
  · rw [up_n (by omega)]; exact b5 k k0 k1
  · rw [px_tg]; exact b6
theorem LnX_tg {h : mv_H} (hl : LnA h l n f) (ho : mv_out l) : LnX h l (xtg n f l) := ⟨⟨ho, (up_s : mv_up f (-1) l (-1) = l)⟩, LnA_tg hl⟩
end TG
