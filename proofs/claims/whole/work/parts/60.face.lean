/-! the face: what holds between calls, what each call answers (written by wip/whole/m60.py) -/
/-- text, log, remembered logs, save slots -/
abbrev wt : Type := Nat × (Int → Int) × lg × Nat × (Int → lg) × (Int → Bool) × (Int → lg)
def wN (W : wt) : Nat := W.1
def wF (W : wt) : Int → Int := W.2.1
def wA (W : wt) : lg := W.2.2.1
def wn (W : wt) : Nat := W.2.2.2.1
def wg (W : wt) : Int → lg := W.2.2.2.2.1
def wk (W : wt) : Int → Bool := W.2.2.2.2.2.1
def wS (W : wt) : Int → lg := W.2.2.2.2.2.2
def rfx (m : Nat) (x : xt) : Prop := x.2 (-1) = 2 ∨ (277 ≤ x.2 (-1) ∧ x.2 (-1) + 6 ≤ m)
/-- the lines of a log are not of those that are written again -/
def gR (m : Nat) (A : lg) : Prop := (∀ i : Int, 0 ≤ i → i < gn A → rfx m (gL A i)) ∧ ∀ t : Int, 0 ≤ t → t < gT A → rfx m (gS A t)
/-- the objects that a call's outcome rests on -/
def csb (m : Nat) (b : Int) : Prop := (0 ≤ b ∧ b ≤ 7) ∨ b = 14 ∨ (165 ≤ b ∧ b ≤ 169) ∨ (180 ≤ b ∧ b ≤ 263) ∨ (277 ≤ b ∧ b < m)
def LtP (h : mv_H) : Prop := (h 0).1 = 0 ∧ (h 0).2.2 0 = 1 ∧ (h 0).2.2 2 = 8 ∧ (h 0).2.2 3 = 14 ∧ (h 0).2.2 4 = 165 ∧ (h 0).2.2 5 = 170 ∧ (h 0).2.2 6 = 175 ∧ (h 0).2.2 7 = 180 ∧ (h 0).2.2 8 = 252 ∧ (h 0).2.2 9 = 263 ∧
  (h 14).1 = 14 ∧ (h 14).2.1 = 25 ∧ (∀ k : Int, 0 ≤ k → k < 25 → (h 14).2.2 k = 15 + 6 * k) ∧ (h 252).1 = 15 ∧ (h 252).2.1 = 2 ∧ (h 252).2.2 0 = 253 ∧ (h 252).2.2 1 = 258 ∧ (h 263).1 = 12 ∧ (h 263).2.1 = 2
def LtC (m : Nat) (h : mv_H) (W : wt) : Prop := LtP h ∧ TxA h (wN W) (wF W) ∧ StA h 165 (wA W) ∧ HsA h (wn W) (wg W) ∧ StW h 253 ∧ StW h 258 ∧ (∀ s : Int, (s = 0 ∨ s = 1) → (h 263).2.2 s = mv_bo (wk W s) ∧ (wk W s = true → StA h (253 + 5 * s) (wS W s))) ∧
  277 ≤ m ∧ gR m (wA W) ∧ (∀ j : Int, 0 ≤ j → j < wn W → gR m (wg W j)) ∧ ∀ s : Int, (s = 0 ∨ s = 1) → wk W s = true → gR m (wS W s)
def LtS (h : mv_H) : Prop := LnW h 8 ∧ (∀ k : Int, 0 ≤ k → k < 25 → LnW h (15 + 6 * k)) ∧ StW h 170 ∧ StW h 175
def LtA (m : Nat) (h : mv_H) (W : wt) : Prop := LtC m h W ∧ LtS h
theorem rfx_mo {m m' : Nat} {x : xt} (h : rfx m x) (hm : m ≤ m') : rfx m' x := by unfold rfx at *; omega
theorem gR_mo {m m' : Nat} {A : lg} (h : gR m A) (hm : m ≤ m') : gR m' A := ⟨fun i h0 h1 => rfx_mo (h.1 i h0 h1) hm, fun t h0 h1 => rfx_mo (h.2 t h0 h1) hm⟩
section FK
variable {h h' : mv_H} {m : Nat} {A : lg} {s : Int}
theorem LnX.rk {l : Int} {x : xt} (hl : LnX h l x) (hr : rfx m x) (hk : ∀ b : Int, (2 ≤ b ∧ b ≤ 7) ∨ (277 ≤ b ∧ b < m) → h' b = h b) : LnX h' l x :=
  hl.kept (fun b h0 h1 => hk b (by have := hl.1.2; unfold rfx at hr; omega))
theorem StW.kq (hs : StW h s) (hk : ∀ b : Int, (2 ≤ b ∧ b ≤ 7) ∨ (s ≤ b ∧ b ≤ s + 4) → h' b = h b) : StW h' s := by
  obtain ⟨a1, a2, a3, a4, a5, a6, a7, a8, a9, a10, a11, a12, a13⟩ := hs
  unfold StW
  rw [hk s (by omega), hk (s + 1) (by omega), hk (s + 2) (by omega), hk (s + 3) (by omega), hk (s + 4) (by omega)]
  exact ⟨a1, a2, a3, a4, a5, a6, a7, a8, a9, a10, a11, a12, a13.kept (fun b h0 h1 => hk b (by omega))⟩
theorem StA.kq (hs : StA h s A) (hr : gR m A) (hk : ∀ b : Int, (2 ≤ b ∧ b ≤ 7) ∨ (277 ≤ b ∧ b < m) ∨ (s ≤ b ∧ b ≤ s + 4) → h' b = h b) : StA h' s A := by
  obtain ⟨a1, a2, a3, a4, a5, a6, a7, a8⟩ := hs
  refine ⟨a1.kq (fun b hb => hk b (by omega)), a2, ?_, ?_, fun i i0 i1 => ?_, fun i i0 i1 => ?_, fun t t0 t1 => ?_, fun t t0 t1 => ?_⟩
  · rw [hk s (by omega)]; exact a3
  · rw [hk s (by omega)]; exact a4
  · rw [hk (s + 1) (by omega)]; exact (a5 i i0 i1).rk (hr.1 i i0 i1) (fun b hb => hk b (by omega))
  · rw [hk (s + 2) (by omega)]; exact a6 i i0 i1
  · rw [hk (s + 3) (by omega)]; exact (a7 t t0 t1).rk (hr.2 t t0 t1) (fun b hb => hk b (by omega))
  · rw [hk (s + 4) (by omega)]; exact a8 t t0 t1
theorem HsA.kq {n : Nat} {g : Int → lg} (hs : HsA h n g) (hr : ∀ j : Int, 0 ≤ j → j < n → gR m (g j)) (hk : ∀ b : Int, (2 ≤ b ∧ b ≤ 7) ∨ (277 ≤ b ∧ b < m) ∨ (180 ≤ b ∧ b ≤ 251) → h' b = h b) : HsA h' n g := by
  obtain ⟨⟨a1, a2, a3, a4, a5⟩, b1, b2, o, o0, o1, o2, b3⟩ := hs
  refine ⟨⟨?_, ?_, ?_, ?_, fun k k0 k1 => ⟨?_, (a5 k k0 k1).2.kq (fun b hb => hk b (by omega))⟩⟩, b1, ?_, o, o0, o1, ?_, fun j j0 j1 => (b3 j j0 j1).kq (hr j j0 j1) (fun b hb => hk b (by omega))⟩
  · rw [hk 180 (by omega)]; exact a1
  · rw [hk 180 (by omega)]; exact a2
  · rw [hk 181 (by omega)]; exact a3
  · rw [hk 181 (by omega)]; exact a4
  · rw [hk 181 (by omega)]; exact (a5 k k0 k1).1
  · rw [hk 180 (by omega)]; exact b2
  · rw [hk 180 (by omega)]; exact o2
theorem TxA.kq {N : Nat} {f : Int → Int} (ht : TxA h N f) (hk : ∀ b : Int, b = 0 ∨ b = 1 → h' b = h b) : TxA h' N f := by
  unfold TxA at *
  rw [hk 0 (by omega), hk 1 (by omega)]; exact ht
theorem LtP.kq (ht : LtP h) (hk : ∀ b : Int, b = 0 ∨ b = 14 ∨ b = 252 ∨ b = 263 → h' b = h b) : LtP h' := by
  unfold LtP at *
  rw [hk 0 (by omega), hk 14 (by omega), hk 252 (by omega), hk 263 (by omega)]; exact ht
theorem LtC.kq {W : wt} (hs : LtC m h W) (hk : ∀ b : Int, csb m b → h' b = h b) : LtC m h' W := by
  obtain ⟨a1, a2, a3, a4, a5, a6, a7, a8, a9, a10, a11⟩ := hs
  unfold csb at hk
  refine ⟨a1.kq (fun b hb => hk b (by omega)), a2.kq (fun b hb => hk b (by omega)), a3.kq a9 (fun b hb => hk b (by omega)), a4.kq a10 (fun b hb => hk b (by omega)), a5.kq (fun b hb => hk b (by omega)), a6.kq (fun b hb => hk b (by omega)), fun s hs => ⟨?_, fun e => ((a7 s hs).2 e).kq (a11 s hs e) (fun b hb => hk b (by omega))⟩, a8, a9, a10, a11⟩
  rw [hk 263 (by omega)]; exact (a7 s hs).1
theorem LnW.kq {l : Int} (hl : LnW h l) (hk : ∀ b : Int, l ≤ b → b ≤ l + 5 → h' b = h b) : LnW h' l := by
  unfold LnW at *
  rw [hk l (by omega) (by omega), hk (l + 1) (by omega) (by omega), hk (l + 2) (by omega) (by omega), hk (l + 3) (by omega) (by omega), hk (l + 4) (by omega) (by omega), hk (l + 5) (by omega) (by omega)]
  exact hl
theorem LtS.kq (hs : LtS h) (hk : ∀ b : Int, (2 ≤ b ∧ b ≤ 13) ∨ (15 ≤ b ∧ b ≤ 164) ∨ (170 ≤ b ∧ b ≤ 179) → h' b = h b) : LtS h' :=
  ⟨hs.1.kq (fun b _ _ => hk b (by omega)), fun k k0 k1 => (hs.2.1 k k0 k1).kq (fun b _ _ => hk b (by omega)), hs.2.2.1.kq (fun b hb => hk b (by omega)), hs.2.2.2.kq (fun b hb => hk b (by omega))⟩
end FK
section GR
variable {m : Nat} {A B : lg} {x : xt} {t u p i : Int}
theorem gR_put (h : gR m A) (hx : rfx m x) : gR m (gput A x t) := by
  unfold gput
  split
  · split
    · refine ⟨fun i i0 i1 => ?_, fun s s0 s1 => ?_⟩
      · show rfx m (gu A.2.2.1 (gn A) x i)
        by_cases e : i = gn A
        · rw [e, gu_s]; exact hx
        · rw [gu_n e]; exact h.1 i i0 (by have : i < ((gn A + 1 : Nat) : Int) := i1; omega)
      · show rfx m (gu A.2.2.2.2.1 t x s)
        by_cases e : s = t
        · rw [e, gu_s]; exact hx
        · rw [gu_n e]; exact h.2 s s0 (by have : s < ((gT A + 1 : Nat) : Int) := s1; omega)
    · refine ⟨fun i i0 i1 => ?_, fun s s0 s1 => h.2 s s0 s1⟩
      show rfx m (gu A.2.2.1 (gn A) x i)
      by_cases e : i = gn A
      · rw [e, gu_s]; exact hx
      · rw [gu_n e]; exact h.1 i i0 (by have : i < ((gn A + 1 : Nat) : Int) := i1; omega)
  · exact h
theorem gR_dropT (h : gR m A) : gR m (gdropT A t) := by
  unfold gdropT
  split
  · refine ⟨fun i i0 i1 => h.1 i i0 i1, fun s s0 s1 => ?_⟩
    have s1 : s < ((gT A - 1 : Nat) : Int) := s1
    show rfx m (if s < t then gS A s else gS A (s + 1))
    split
    · exact h.2 s s0 (by omega)
    · exact h.2 (s + 1) (by omega) (by omega)
  · exact h
theorem gR_drop (h : gR m A) : gR m (gdrop A i) := by
  have h1 : gR m (gdrop1 A i) := by
    refine ⟨fun k k0 k1 => ?_, fun s s0 s1 => h.2 s s0 s1⟩
    have k1 : k < ((gn A - 1 : Nat) : Int) := k1
    show rfx m (if k < i then gL A k else gL A (k + 1))
    split
    · exact h.1 k k0 (by omega)
    · exact h.1 (k + 1) (by omega) (by omega)
  unfold gdrop
  split
  · split
    · exact gR_dropT h1
    · exact h1
  · exact h
theorem gR_open (h : gR m A) : gR m (gopen A t p) := by
  obtain ⟨e1, e2, e3, -, e5, -⟩ := gop_same (A := A) (t := t) (q := p)
  refine ⟨fun i i0 i1 => ?_, fun s s0 s1 => ?_⟩
  · rw [e3]; exact h.1 i i0 (by rw [← e1]; exact i1)
  · rw [e5]; exact h.2 s s0 (by rw [← e2]; exact s1)
theorem gR_gle (h : gR m A) : gR m (gle A) := by
  unfold gle
  split
  · exact h
  · refine gR_dropT (A := gmv _ _ _) ?_
    have h1 := gR_open (t := glt A) (p := god A (glt A) (glq A (glt A))) h
    exact ⟨fun i i0 i1 => h1.1 i i0 i1, fun s s0 s1 => h1.2 s s0 s1⟩
theorem gR_gall : ∀ (k : Nat) {A : lg}, gR m A → gR m (gall A k)
  | 0, _, h => h
  | k + 1, A, h => by
    show gR m (if glv A = -9999 then A else gall (gle A) k)
    split
    · exact h
    · exact gR_gall k (gR_gle h)
theorem rfx_l (h : gR m A) (i : Int) : rfx m (gl A i) := by
  unfold gl
  split
  · exact h.1 i (by omega) (by omega)
  · exact Or.inl rfl
theorem gR_gtk (h : gR m A) : ∀ k : Nat, gR m (gtk A k).2
  | 0 => ⟨fun i i0 i1 => by have i1 : i < 0 := i1; omega, fun s s0 s1 => by have s1 : s < 0 := s1; omega⟩
  | k + 1 => by
    have ih := gR_gtk h k
    have e : gtk A (k + 1) = cond (gtk A k).1 (cond (decide (gtf (gtk A k).2 (gl A k) = -9999)) (false, (gtk A k).2) (true, gput (gtk A k).2 (gl A k) (gtf (gtk A k).2 (gl A k)))) (gtk A k) := rfl
    rw [e]
    cases (gtk A k).1 with
    | false => exact ih
    | true =>
      cases decide (gtf (gtk A k).2 (gl A k) = -9999) with
      | true => exact ih
      | false => exact gR_put ih (rfx_l h _)
theorem gR_hs {n : Nat} {g : Int → lg} (hn : n ≤ 14) (hg : ∀ j : Int, 0 ≤ j → j < n → gR m (g j)) (h : gR m A) : ∀ j : Int, 0 ≤ j → j < hs_n n → gR m (hs_g n g A j) := fun j j0 j1 => by
  unfold hs_n at j1
  unfold hs_g
  by_cases e : n = 14
  · rw [if_pos e] at j1 ⊢
    show gR m (if j = 13 then A else g (j + 1))
    split
    · exact h
    · exact hg (j + 1) (by omega) (by omega)
  · rw [if_neg e] at j1 ⊢
    show gR m (if j = n then A else g j)
    split
    · exact h
    · exact hg j j0 (by omega)
end GR
/-- an answer of the class: a value, or the first or second exception that the call lists -/
def clr (e1 e2 k x : Int) : mv_R := if k = 0 then (0, x) else if k = 1 then (4, e1) else (4, e2)
def cck (k : Int) (c : mv_C) : mv_C := if k = 0 then c else (c.1, c.2.1 + 1, c.2.2 + 6)
/-- no more than a call's room is taken -/
def cgr (c c' : mv_C) : Prop := c.1 ≤ c'.1 ∧ c'.2.1 ≤ c.2.1 + 10 ∧ c'.2.2 ≤ c.2.2 + 200
theorem cgr_k (k : Int) (c : mv_C) : cgr c (cck k c) := by
  unfold cck cgr
  split
  · omega
  · dsimp only; omega
theorem cck_1 (k : Int) (c : mv_C) : (cck k c).1 = c.1 := by unfold cck; split <;> rfl
abbrev spt : Type := Int × Int × wt
def w_A (W : wt) (A : lg) : wt := (wN W, wF W, A, wn W, wg W, wk W, wS W)
/-- the log becomes A, the elder one is remembered -/
def w_R (W : wt) (A : lg) : wt := (wN W, wF W, A, hs_n (wn W), hs_g (wn W) (wg W) (wA W), wk W, wS W)
def sp_append (W : wt) (x : Int) : spt := if 0 ≤ x ∧ x ≤ 255 then (if wN W = 50 then (2, 0, W) else (0, (wN W : Int) + 1, (wN W + 1, mv_up (wF W) (wN W) x, W.2.2))) else (1, 0, W)
def sp_clear (W : wt) : spt := (0, wN W, (0, wF W, W.2.2))
def sp_error (W : wt) : spt := (0, er (wN W) (wF W), W)
def sp_about (W : wt) (x : Int) : spt := if x = 0 then (0, gn (wA W), W) else if x = 1 then (0, gT (wA W), W) else if x = 2 then (0, cch (wA W), W) else if x = 3 then (0, cols (wA W), W) else if x = 4 then (0, cots (wA W), W) else if x = 5 then (0, csls (wA W) 3, W) else if x = 6 then (0, csls (wA W) 4, W) else if x = 7 then (0, cdw (wA W), W) else (1, 0, W)
def sp_line (W : wt) (i x : Int) : spt := if 0 ≤ i ∧ i < gn (wA W) then (if x = 0 then (0, gt (wA W) i, W) else if x = 1 then (0, (gl (wA W) i).1, W) else if x = 2 then (0, col (wA W) (gl (wA W) i) (gt (wA W) i) i, W) else if x = 3 then (0, clb (wA W) (gt (wA W) i) i, W) else (2, 0, W)) else (1, 0, W)
def sp_charAt (W : wt) (i k : Int) : spt := if 0 ≤ i ∧ i < gn (wA W) then (if k < 0 then (2, 0, W) else (0, xc (gl (wA W) i) k, W)) else (1, 0, W)
def sp_value (W : wt) (i p : Int) : spt := if 0 ≤ i ∧ i < gn (wA W) ∧ 0 ≤ p ∧ p < xn (gl (wA W) i) then (0, xv (gl (wA W) i) p, W) else (1, 0, W)
def sp_template (W : wt) (t x : Int) : spt := if 0 ≤ t ∧ t < gT (wA W) then (if x = 0 then (0, xn (gs (wA W) t), W) else if x = 1 then (0, clb (wA W) t (gn (wA W)), W) else if x = 2 then (0, csl (wA W) t 3, W) else if x = 3 then (0, csl (wA W) t 4, W) else if x = 4 then (0, cot (wA W) t, W) else if x = 5 then (0, gfi (wA W) t, W) else (2, 0, W)) else (1, 0, W)
def sp_piece (W : wt) (t p x : Int) : spt := if 0 ≤ t ∧ t < gT (wA W) ∧ 0 ≤ p ∧ p < xn (gs (wA W) t) then (if x = 0 then (0, gk (wA W) t p, W) else if x = 1 then (0, (if gk (wA W) t p < 3 then xz (gs (wA W) t) p else 0), W) else if x = 2 then (0, cdt (wA W) t p, W) else (2, 0, W)) else (1, 0, W)
def sp_rises (W : wt) (t p : Int) : spt := if 0 ≤ t ∧ t < gT (wA W) ∧ 0 ≤ p ∧ p < xn (gs (wA W) t) then (if gk (wA W) t p = 3 then (0, crs (wA W) t p (gn (wA W)) 0 0 0, W) else (0, -9999, W)) else (1, 0, W)
def sp_take (W : wt) (l : Int) : spt := if er (wN W) (wF W) = -9999 ∧ gtf (wA W) (wN W, wF W) ≠ -9999 then (0, gtf (wA W) (wN W, wF W), w_R W (gput (wA W) (wN W, mv_up (wF W) (-1) l) (gtf (wA W) (wN W, wF W)))) else (1, 0, W)
def sp_again (W : wt) (i : Int) : spt := if 0 ≤ i ∧ i < gn (wA W) then (if gtf (wA W) (gl (wA W) i) = -9999 then (2, 0, W) else (0, gn (wA W), w_R W (gput (wA W) (gl (wA W) i) (gtf (wA W) (gl (wA W) i))))) else (1, 0, W)
def sp_remove (W : wt) (i : Int) : spt := if 0 ≤ i ∧ i < gn (wA W) then (0, gT (gdrop (wA W) i), w_R W (gdrop (wA W) i)) else (1, 0, W)
def sp_learn (W : wt) : spt := (0, glv (wA W), w_R W (gle (wA W)))
def sp_learnAll (W : wt) : spt := (0, gT (gall (wA W) 12), w_R W (gall (wA W) 12))
def sp_open (W : wt) (t p : Int) : spt := if 0 ≤ t ∧ t < gT (wA W) ∧ 0 ≤ p ∧ p < xn (gs (wA W) t) then (if gk (wA W) t p = 0 then (0, cot (gopen (wA W) t p) t, w_R W (gopen (wA W) t p)) else (2, 0, W)) else (1, 0, W)
def sp_forget (W : wt) : spt := if (gtk (wA W) (gn (wA W))).1 = true then (0, gT (gtk (wA W) (gn (wA W))).2, w_R W (gtk (wA W) (gn (wA W))).2) else (1, 0, W)
def sp_undo (W : wt) : spt := if wn W = 0 then (1, 0, W) else (0, (wn W : Int) - 1, (wN W, wF W, wg W ((wn W : Int) - 1), wn W - 1, wg W, wk W, wS W))
def sp_which (W : wt) : spt := (0, (if er (wN W) (wF W) = -9999 then gff (wA W) (wN W, wF W) else -9999), W)
def sp_cost (W : wt) : spt := (0, (if er (wN W) (wF W) = -9999 then col (wA W) (wN W, wF W) (gff (wA W) (wN W, wF W)) (gn (wA W)) else -9999), W)
def sp_saves (W : wt) : spt := (0, (if glv (wA W) = -9999 then -9999 else cal (wA W) - cal (gle (wA W))), W)
def sp_next (W : wt) (t k : Int) : spt := if 0 ≤ t ∧ t < gT (wA W) then (if k < 0 then (2, 0, W) else (0, exc (wA W) t k, W)) else (1, 0, W)
def sp_withv (W : wt) (x : Int) : spt := if 0 ≤ x ∧ x ≤ 999999 then (0, clv (wA W) x, W) else (1, 0, W)
def sp_save (W : wt) (s : Int) : spt := if 0 ≤ s ∧ s < 2 then (0, gn (wA W), (wN W, wF W, wA W, wn W, wg W, gu (wk W) s true, gu (wS W) s (wA W))) else (1, 0, W)
def sp_restore (W : wt) (s : Int) : spt := if 0 ≤ s ∧ s < 2 then (if wk W s = true then (0, gn (wS W s), (wN W, wF W, wS W s, 0, wg W, wk W, wS W)) else (2, 0, W)) else (1, 0, W)
