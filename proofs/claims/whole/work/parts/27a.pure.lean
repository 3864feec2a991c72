/-! a state's contents apart from the heap; what the writers make of a log -/
abbrev sv : Type := Int × Int × (Int → Int) × (Int → Int) × (Int → Int) × (Int → Int)
def sH (h : mv_H) (s : Int) (v : sv) : mv_H := fun b => if b = s then ((h s).1, (h s).2.1, mv_up (mv_up (h s).2.2 5 v.1) 6 v.2.1) else if b = s + 1 then ((h (s + 1)).1, (h (s + 1)).2.1, v.2.2.1) else if b = s + 2 then ((h (s + 2)).1, (h (s + 2)).2.1, v.2.2.2.1) else if b = s + 3 then ((h (s + 3)).1, (h (s + 3)).2.1, v.2.2.2.2.1) else if b = s + 4 then ((h (s + 4)).1, (h (s + 4)).2.1, v.2.2.2.2.2) else h b
section SH
variable {h : mv_H} {s b j x : Int} {v : sv}
theorem sH_0 : sH h s v s = ((h s).1, (h s).2.1, mv_up (mv_up (h s).2.2 5 v.1) 6 v.2.1) := if_pos rfl
theorem sH_1 : sH h s v (s + 1) = ((h (s + 1)).1, (h (s + 1)).2.1, v.2.2.1) := by
  unfold sH; rw [if_neg (by omega), if_pos rfl]
theorem sH_2 : sH h s v (s + 2) = ((h (s + 2)).1, (h (s + 2)).2.1, v.2.2.2.1) := by
  unfold sH; rw [if_neg (by omega), if_neg (by omega), if_pos rfl]
theorem sH_3 : sH h s v (s + 3) = ((h (s + 3)).1, (h (s + 3)).2.1, v.2.2.2.2.1) := by
  unfold sH; rw [if_neg (by omega), if_neg (by omega), if_neg (by omega), if_pos rfl]
theorem sH_4 : sH h s v (s + 4) = ((h (s + 4)).1, (h (s + 4)).2.1, v.2.2.2.2.2) := by
  unfold sH; rw [if_neg (by omega), if_neg (by omega), if_neg (by omega), if_neg (by omega), if_pos rfl]
theorem sH_o (hb : b < s ∨ s + 4 < b) : sH h s v b = h b := by
  unfold sH; rw [if_neg (by omega), if_neg (by omega), if_neg (by omega), if_neg (by omega), if_neg (by omega)]
theorem sH_tg : (sH h s v b).1 = (h b).1 := by
  unfold sH
  by_cases h0 : b = s
  · rw [if_pos h0, h0]
  by_cases h1 : b = s + 1
  · rw [if_neg h0, if_pos h1, h1]
  by_cases h2 : b = s + 2
  · rw [if_neg h0, if_neg h1, if_pos h2, h2]
  by_cases h3 : b = s + 3
  · rw [if_neg h0, if_neg h1, if_neg h2, if_pos h3, h3]
  by_cases h4 : b = s + 4
  · rw [if_neg h0, if_neg h1, if_neg h2, if_neg h3, if_pos h4, h4]
  rw [if_neg h0, if_neg h1, if_neg h2, if_neg h3, if_neg h4]
theorem sH_ln (hb : b ≠ s) : (sH h s v b).2.1 = (h b).2.1 := by
  unfold sH
  by_cases h1 : b = s + 1
  · rw [if_neg hb, if_pos h1, h1]
  by_cases h2 : b = s + 2
  · rw [if_neg hb, if_neg h1, if_pos h2, h2]
  by_cases h3 : b = s + 3
  · rw [if_neg hb, if_neg h1, if_neg h2, if_pos h3, h3]
  by_cases h4 : b = s + 4
  · rw [if_neg hb, if_neg h1, if_neg h2, if_neg h3, if_pos h4, h4]
  rw [if_neg hb, if_neg h1, if_neg h2, if_neg h3, if_neg h4]
theorem sH_l1 : (sH h s v (s + 1)).2.1 = (h (s + 1)).2.1 := sH_ln (by omega)
theorem sH_l2 : (sH h s v (s + 2)).2.1 = (h (s + 2)).2.1 := sH_ln (by omega)
theorem sH_l3 : (sH h s v (s + 3)).2.1 = (h (s + 3)).2.1 := sH_ln (by omega)
theorem sH_l4 : (sH h s v (s + 4)).2.1 = (h (s + 4)).2.1 := sH_ln (by omega)
theorem sH_n5 : (sH h s v s).2.2 5 = v.1 := by rw [sH_0]; dsimp only; rw [up_n (show (5 : Int) ≠ 6 by decide), up_s]
theorem sH_n6 : (sH h s v s).2.2 6 = v.2.1 := by rw [sH_0]; dsimp only; rw [up_s]
theorem sH_f0 : (sH h s v s).2.2 0 = (h s).2.2 0 := by rw [sH_0]; dsimp only; rw [up_n (show (0 : Int) ≠ 6 by decide), up_n (show (0 : Int) ≠ 5 by decide)]
theorem sH_f1 : (sH h s v s).2.2 1 = (h s).2.2 1 := by rw [sH_0]; dsimp only; rw [up_n (show (1 : Int) ≠ 6 by decide), up_n (show (1 : Int) ≠ 5 by decide)]
theorem sH_f2 : (sH h s v s).2.2 2 = (h s).2.2 2 := by rw [sH_0]; dsimp only; rw [up_n (show (2 : Int) ≠ 6 by decide), up_n (show (2 : Int) ≠ 5 by decide)]
theorem sH_f3 : (sH h s v s).2.2 3 = (h s).2.2 3 := by rw [sH_0]; dsimp only; rw [up_n (show (3 : Int) ≠ 6 by decide), up_n (show (3 : Int) ≠ 5 by decide)]
theorem sH_f4 : (sH h s v s).2.2 4 = (h s).2.2 4 := by rw [sH_0]; dsimp only; rw [up_n (show (4 : Int) ≠ 6 by decide), up_n (show (4 : Int) ≠ 5 by decide)]
theorem sH_c1 : (sH h s v (s + 1)).2.2 = v.2.2.1 := by rw [sH_1]
theorem sH_c2 : (sH h s v (s + 2)).2.2 = v.2.2.2.1 := by rw [sH_2]
theorem sH_c3 : (sH h s v (s + 3)).2.2 = v.2.2.2.2.1 := by rw [sH_3]
theorem sH_c4 : (sH h s v (s + 4)).2.2 = v.2.2.2.2.2 := by rw [sH_4]
theorem sH_ext {g : mv_H} {w : sv} (h0 : g s = ((h s).1, (h s).2.1, mv_up (mv_up (h s).2.2 5 w.1) 6 w.2.1)) (h1 : g (s + 1) = ((h (s + 1)).1, (h (s + 1)).2.1, w.2.2.1)) (h2 : g (s + 2) = ((h (s + 2)).1, (h (s + 2)).2.1, w.2.2.2.1)) (h3 : g (s + 3) = ((h (s + 3)).1, (h (s + 3)).2.1, w.2.2.2.2.1)) (h4 : g (s + 4) = ((h (s + 4)).1, (h (s + 4)).2.1, w.2.2.2.2.2)) (ho : ∀ b, (b < s ∨ s + 4 < b) → g b = h b) : g = sH h s w := by
  funext b
  by_cases e0 : b = s
  · rw [e0, h0, sH_0]
  by_cases e1 : b = s + 1
  · rw [e1, h1, sH_1]
  by_cases e2 : b = s + 2
  · rw [e2, h2, sH_2]
  by_cases e3 : b = s + 3
  · rw [e3, h3, sH_3]
  by_cases e4 : b = s + 4
  · rw [e4, h4, sH_4]
  rw [ho b (by omega), sH_o (by omega)]
theorem sW_5 : mv_uo (sH h s v) s ((sH h s v s).1, (sH h s v s).2.1, mv_up (sH h s v s).2.2 5 x) = sH h s (x, v.2) := by
  refine sH_ext ?_ ?_ ?_ ?_ ?_ (fun b hb => ?_)
  · rw [uo_s, sH_0]
    refine congrArg (fun g => ((h s).1, (h s).2.1, g)) (funext fun k => ?_)
    dsimp only
    unfold mv_up
    by_cases h5 : k = 5
    · rw [if_pos h5, if_neg (by omega), if_pos h5]
    · rw [if_neg h5, if_neg h5, if_neg h5]
  · rw [uo_n (by omega), sH_1]
  · rw [uo_n (by omega), sH_2]
  · rw [uo_n (by omega), sH_3]
  · rw [uo_n (by omega), sH_4]
  · rw [uo_n (by omega), sH_o hb]
theorem sW_6 : mv_uo (sH h s v) s ((sH h s v s).1, (sH h s v s).2.1, mv_up (sH h s v s).2.2 6 x) = sH h s (v.1, x, v.2.2) := by
  refine sH_ext ?_ ?_ ?_ ?_ ?_ (fun b hb => ?_)
  · rw [uo_s, sH_0]
    refine congrArg (fun g => ((h s).1, (h s).2.1, g)) (funext fun k => ?_)
    dsimp only
    unfold mv_up
    by_cases h5 : k = 6
    · rw [if_pos h5, if_pos h5]
    · rw [if_neg h5, if_neg h5, if_neg h5]
  · rw [uo_n (by omega), sH_1]
  · rw [uo_n (by omega), sH_2]
  · rw [uo_n (by omega), sH_3]
  · rw [uo_n (by omega), sH_4]
  · rw [uo_n (by omega), sH_o hb]
theorem sW_1 : mv_uo (sH h s v) (s + 1) ((sH h s v (s + 1)).1, (sH h s v (s + 1)).2.1, mv_up (sH h s v (s + 1)).2.2 j x) = sH h s (v.1, v.2.1, mv_up v.2.2.1 j x, v.2.2.2) := by
  refine sH_ext ?_ ?_ ?_ ?_ ?_ (fun b hb => ?_)
  · rw [uo_n (by omega), sH_0]
  · rw [uo_s, sH_1]
  · rw [uo_n (by omega), sH_2]
  · rw [uo_n (by omega), sH_3]
  · rw [uo_n (by omega), sH_4]
  · rw [uo_n (by omega), sH_o hb]
theorem sW_2 : mv_uo (sH h s v) (s + 2) ((sH h s v (s + 2)).1, (sH h s v (s + 2)).2.1, mv_up (sH h s v (s + 2)).2.2 j x) = sH h s (v.1, v.2.1, v.2.2.1, mv_up v.2.2.2.1 j x, v.2.2.2.2) := by
  refine sH_ext ?_ ?_ ?_ ?_ ?_ (fun b hb => ?_)
  · rw [uo_n (by omega), sH_0]
  · rw [uo_n (by omega), sH_1]
  · rw [uo_s, sH_2]
  · rw [uo_n (by omega), sH_3]
  · rw [uo_n (by omega), sH_4]
  · rw [uo_n (by omega), sH_o hb]
theorem sW_3 : mv_uo (sH h s v) (s + 3) ((sH h s v (s + 3)).1, (sH h s v (s + 3)).2.1, mv_up (sH h s v (s + 3)).2.2 j x) = sH h s (v.1, v.2.1, v.2.2.1, v.2.2.2.1, mv_up v.2.2.2.2.1 j x, v.2.2.2.2.2) := by
  refine sH_ext ?_ ?_ ?_ ?_ ?_ (fun b hb => ?_)
  · rw [uo_n (by omega), sH_0]
  · rw [uo_n (by omega), sH_1]
  · rw [uo_n (by omega), sH_2]
  · rw [uo_s, sH_3]
  · rw [uo_n (by omega), sH_4]
  · rw [uo_n (by omega), sH_o hb]
theorem sW_4 : mv_uo (sH h s v) (s + 4) ((sH h s v (s + 4)).1, (sH h s v (s + 4)).2.1, mv_up (sH h s v (s + 4)).2.2 j x) = sH h s (v.1, v.2.1, v.2.2.1, v.2.2.2.1, v.2.2.2.2.1, mv_up v.2.2.2.2.2 j x) := by
  refine sH_ext ?_ ?_ ?_ ?_ ?_ (fun b hb => ?_)
  · rw [uo_n (by omega), sH_0]
  · rw [uo_n (by omega), sH_1]
  · rw [uo_n (by omega), sH_2]
  · rw [uo_n (by omega), sH_3]
  · rw [uo_s, sH_4]
  · rw [uo_n (by omega), sH_o hb]
def hv (h : mv_H) (s : Int) : sv := ((h s).2.2 5, (h s).2.2 6, (h (s + 1)).2.2, (h (s + 2)).2.2, (h (s + 3)).2.2, (h (s + 4)).2.2)
theorem sH_id (h : mv_H) (s : Int) : h = sH h s (hv h s) := by
  refine sH_ext ?_ rfl rfl rfl rfl (fun b _ => rfl)
  refine congrArg (fun g => ((h s).1, (h s).2.1, g)) (funext fun k => ?_)
  unfold mv_up hv
  dsimp only
  by_cases h5 : k = 5
  · rw [if_neg (by omega), if_pos h5, h5]
  · by_cases h6 : k = 6
    · rw [if_pos h6, h6]
    · rw [if_neg h6, if_neg h5]
theorem sH_fr : mv_frm h (sH h s v) s := fun _ hb => sH_o hb
end SH
/-- contents of a state that stand for a log -/
def StV (h : mv_H) (v : sv) (A : lg) : Prop := gB A ∧ v.1 = gn A ∧ v.2.1 = gT A ∧
  (∀ i : Int, 0 ≤ i → i < gn A → LnX h (v.2.2.1 i) (gL A i)) ∧ (∀ i : Int, 0 ≤ i → i < gn A → v.2.2.2.1 i = gP A i) ∧
  (∀ t : Int, 0 ≤ t → t < gT A → LnX h (v.2.2.2.2.1 t) (gS A t)) ∧ (∀ t : Int, 0 ≤ t → t < gT A → mv_ows (v.2.2.2.2.2 t) (gO A t))
theorem StA.v {h : mv_H} {s : Int} {A : lg} (hs : StA h s A) : StV h (hv h s) A := hs.2
theorem StA.mk {h : mv_H} {s : Int} {v : sv} {A : lg} (hw : StW h s) (hv : StV h v A) : StA (sH h s v) s A := by
  obtain ⟨s1, s2, t0, f0, f1, f2, f3, f4, t1, t2, t3, t4, hl0⟩ := hw
  obtain ⟨v0, v1, v2, v3, v4, v5, v6⟩ := hv
  refine ⟨⟨s1, s2, ?_, ?_, ?_, ?_, ?_, ?_, ?_, ?_, ?_, ?_, hl0.fr s1 s2 sH_fr⟩, v0, ?_, ?_, ?_, ?_, ?_, ?_⟩
  · rw [sH_tg]; exact t0
  · rw [sH_f0]; exact f0
  · rw [sH_f1]; exact f1
  · rw [sH_f2]; exact f2
  · rw [sH_f3]; exact f3
  · rw [sH_f4]; exact f4
  · rw [sH_tg, sH_l1]; exact t1
  · rw [sH_tg, sH_l2]; exact t2
  · rw [sH_tg, sH_l3]; exact t3
  · rw [sH_tg, sH_l4]; exact t4
  · rw [sH_n5]; exact v1
  · rw [sH_n6]; exact v2
  · intro i h0 h1; rw [sH_c1]; exact (v3 i h0 h1).fr s1 s2 sH_fr
  · intro i h0 h1; rw [sH_c2]; exact v4 i h0 h1
  · intro i h0 h1; rw [sH_c3]; exact (v5 i h0 h1).fr s1 s2 sH_fr
  · intro i h0 h1; rw [sH_c4]; exact v6 i h0 h1
/-- a state that nothing touched -/
theorem StA.fr {h h' : mv_H} {s o : Int} {B : lg} (hs : StA h o B) (hk : mv_frm h h' s) (h1 : 165 ≤ s) (h2 : s ≤ 258) (hd : s + 5 ≤ o ∨ o + 5 ≤ s) : StA h' o B := by
  have e : ∀ d : Int, 0 ≤ d → d ≤ 4 → h' (o + d) = h (o + d) := fun d h3 h4 => hk _ (by omega)
  have e0 : h' o = h o := hk _ (by omega)
  obtain ⟨⟨s1, s2, t0, f0, f1, f2, f3, f4, t1, t2, t3, t4, hl0⟩, v0, v1, v2, v3, v4, v5, v6⟩ := hs
  unfold StA StW
  rw [e0, e 1 (by decide) (by decide), e 2 (by decide) (by decide), e 3 (by decide) (by decide), e 4 (by decide) (by decide)]
  exact ⟨⟨s1, s2, t0, f0, f1, f2, f3, f4, t1, t2, t3, t4, hl0.fr h1 h2 hk⟩, v0, v1, v2, fun i h3 h4 => (v3 i h3 h4).fr h1 h2 hk, v4, fun i h3 h4 => (v5 i h3 h4).fr h1 h2 hk, v6⟩
/-- a state under any change that spares it and the lines -/
theorem StA.kept {h h' : mv_H} {o : Int} {B : lg} (hs : StA h o B) (hk : ∀ b : Int, (o ≤ b ∧ b ≤ o + 4) ∨ (0 ≤ b ∧ b ≤ 7) → h' b = h b) (hl : ∀ (l : Int) (x : xt), LnX h l x → LnX h' l x) : StA h' o B := by
  have e : ∀ d : Int, 0 ≤ d → d ≤ 4 → h' (o + d) = h (o + d) := fun d h3 h4 => hk _ (by omega)
  have e0 : h' o = h o := hk _ (by omega)
  obtain ⟨⟨s1, s2, t0, f0, f1, f2, f3, f4, t1, t2, t3, t4, hl0⟩, v0, v1, v2, v3, v4, v5, v6⟩ := hs
  unfold StA StW
  rw [e0, e 1 (by decide) (by decide), e 2 (by decide) (by decide), e 3 (by decide) (by decide), e 4 (by decide) (by decide)]
  exact ⟨⟨s1, s2, t0, f0, f1, f2, f3, f4, t1, t2, t3, t4, hl _ _ hl0⟩, v0, v1, v2, fun i h3 h4 => hl _ _ (v3 i h3 h4), v4, fun i h3 h4 => hl _ _ (v5 i h3 h4), v6⟩
def gu {α : Type} (f : Int → α) (i : Int) (x : α) : Int → α := fun j => if j = i then x else f j
theorem gu_s {α : Type} {f : Int → α} {i : Int} {x : α} : gu f i x i = x := if_pos rfl
theorem gu_n {α : Type} {f : Int → α} {i j : Int} {x : α} (h : j ≠ i) : gu f i x j = f j := if_neg h
def ge0 : lg := (0, 0, fun _ => x0, fun _ => 0, fun _ => x0, fun _ _ => false)
def gput (A : lg) (x : xt) (t : Int) : lg := if gn A < 24 ∧ 0 ≤ t ∧ t ≤ gT A ∧ t < 12 then (if t = gT A then (gn A + 1, gT A + 1, gu A.2.2.1 (gn A) x, gu A.2.2.2.1 (gn A) t, gu A.2.2.2.2.1 t x, gu A.2.2.2.2.2 t (fun _ => false)) else (gn A + 1, gT A, gu A.2.2.1 (gn A) x, gu A.2.2.2.1 (gn A) t, A.2.2.2.2.1, A.2.2.2.2.2)) else A
def gdropT (A : lg) (t : Int) : lg := if 0 ≤ t ∧ t < gT A then (gn A, gT A - 1, A.2.2.1, (fun i => if t < gP A i then gP A i - 1 else gP A i), (fun k => if k < t then gS A k else gS A (k + 1)), (fun k => if k < t then gO A k else gO A (k + 1))) else A
def gdrop1 (A : lg) (i : Int) : lg := (gn A - 1, gT A, (fun k => if k < i then gL A k else gL A (k + 1)), (fun k => if k < i then gP A k else gP A (k + 1)), A.2.2.2.2.1, A.2.2.2.2.2)
def gdrop (A : lg) (i : Int) : lg := if 0 ≤ i ∧ i < gn A then (if lf (fun k => decide (gP (gdrop1 A i) k = gP A i)) (gn (gdrop1 A i)) = -9999 then gdropT (gdrop1 A i) (gP A i) else gdrop1 A i) else A
def gopen (A : lg) (t q : Int) : lg := if 0 ≤ t ∧ t < gT A ∧ 0 ≤ q ∧ q < 12 then (gn A, gT A, A.2.2.1, A.2.2.2.1, A.2.2.2.2.1, gu A.2.2.2.2.2 t (fun r => if r = q then true else gO A t r)) else A
def gmv (A : lg) (u t : Int) : lg := (gn A, gT A, A.2.2.1, (fun i => if gP A i = u then t else gP A i), A.2.2.2.2.1, A.2.2.2.2.2)
def gmove (A : lg) (u t : Int) : lg := gdropT (gmv A u t) u
def gtk (B : lg) : Nat → Bool × lg
  | 0 => (true, ge0)
  | m + 1 => bif (gtk B m).1 then (bif decide (gtf (gtk B m).2 (gl B m) = -9999) then (false, (gtk B m).2) else (true, gput (gtk B m).2 (gl B m) (gtf (gtk B m).2 (gl B m)))) else gtk B m
theorem gtk_stop {B : lg} {k : Nat} (h : (gtk B k).1 = false) : ∀ n, k ≤ n → gtk B n = gtk B k
  | 0, hk => by rw [Nat.le_zero.mp hk]
  | n + 1, hk => by
    by_cases he : k = n + 1
    · rw [he]
    · have h1 := gtk_stop h n (by omega)
      show cond (gtk B n).1 _ (gtk B n) = _
      rw [h1, h]; rfl
/-- learning: at which piece alone two templates differ; the first pair; what it leaves -/
def gal (A : lg) (t u p : Int) : Bool := decide (gk A t p = gk A u p) && (decide (gk A t p = 3) || decide (gk A t p = 4) || xw (gs A t) p (gs A u) p)
def gdl (A : lg) (t u : Int) : Nat → Int
  | 0 => -1
  | m + 1 => if gdl A t u m = -9999 then -9999 else if gal A t u m = true then gdl A t u m else if gdl A t u m ≠ -1 ∨ xk (gs A t) m ≠ 0 ∨ xk (gs A u) m ≠ 0 then -9999 else m
def god (A : lg) (t u : Int) : Int := if xn (gs A t) = xn (gs A u) then gdl A t u (xn (gs A t)).toNat else -9999
def glq (A : lg) (t : Int) : Int := lf (fun u => decide (t < u) && decide (god A t u ≠ -9999)) (gT A)
def glt (A : lg) : Int := lf (fun t => decide (glq A t ≠ -9999)) (gT A)
def glv (A : lg) : Int := if glt A = -9999 then -9999 else 100 * glt A + glq A (glt A)
def gle (A : lg) : lg := if glt A = -9999 then A else gmove (gopen A (glt A) (god A (glt A) (glq A (glt A)))) (glq A (glt A)) (glt A)
def gall (A : lg) : Nat → lg
  | 0 => A
  | m + 1 => if glv A = -9999 then A else gall (gle A) m
theorem gdl_stop {A : lg} {t u : Int} {k : Nat} (h : gdl A t u k = -9999) : ∀ n, k ≤ n → gdl A t u n = -9999
  | 0, hk => by rw [← Nat.le_zero.mp hk]; exact h
  | n + 1, hk => by
    by_cases he : k = n + 1
    · rw [← he]; exact h
    · unfold gdl
      rw [if_pos (gdl_stop h n (by omega))]
theorem gdl_b {A : lg} {t u : Int} : ∀ n : Nat, (gdl A t u n = -9999 ∨ -1 ≤ gdl A t u n) ∧ (gdl A t u n < n)
  | 0 => ⟨Or.inr (Int.le_refl _), by show (-1 : Int) < 0; decide⟩
  | n + 1 => by
    have h1 := gdl_b (A := A) (t := t) (u := u) n
    unfold gdl
    (repeat' split) <;> omega
theorem god_b {A : lg} (hB : gB A) (t u : Int) : (god A t u = -9999 ∨ -1 ≤ god A t u) ∧ god A t u < 12 := by
  have h1 := gdl_b (A := A) (t := t) (u := u) (xn (gs A t)).toNat
  have h2 := xn_b (gs_ok hB t)
  unfold god
  split <;> omega
theorem glq_b (A : lg) (t : Int) : glq A t = -9999 ∨ (t < glq A t ∧ glq A t < gT A ∧ 0 ≤ glq A t ∧ god A t (glq A t) ≠ -9999) := by
  by_cases h : glq A t = -9999
  · exact Or.inl h
  · obtain ⟨i, h1, h2, h3, _⟩ := lf_some h
    have h2 : glq A t = i := h2
    simp only [Bool.and_eq_true, decide_eq_true_eq] at h3
    rw [h2]
    exact Or.inr ⟨h3.1, by omega, by omega, h3.2⟩
theorem glt_b (A : lg) : glt A = -9999 ∨ (0 ≤ glt A ∧ glt A < glq A (glt A) ∧ glq A (glt A) < gT A ∧ god A (glt A) (glq A (glt A)) ≠ -9999) := by
  by_cases h : glt A = -9999
  · exact Or.inl h
  · obtain ⟨i, h1, h2, h3, _⟩ := lf_some h
    have h2 : glt A = i := h2
    have h3 := of_decide_eq_true h3
    have h4 := glq_b A i
    rw [h2]
    rcases h4 with h4 | h4
    · exact absurd h4 h3
    · exact Or.inr ⟨by omega, h4.1, h4.2.1, h4.2.2.2⟩
theorem glv_none {A : lg} : glv A = -9999 ↔ glt A = -9999 := by
  have h := glt_b A
  unfold glv
  split
  · exact ⟨fun _ => by assumption, fun _ => rfl⟩
  · constructor
    · intro h2; omega
    · intro h2; omega
theorem gle_none {A : lg} (h : glv A = -9999) : gle A = A := if_pos (glv_none.mp h)
theorem tb_i {w p : Int} (h : 0 ≤ w) : (w / 2 ^ p.toNat % (1 + 1) = 0 ↔ w.toNat.testBit p.toNat = false) := by
  obtain ⟨n, rfl⟩ := Int.eq_ofNat_of_zero_le h
  rw [Nat.testBit_eq_decide_div_mod_eq]
  have e : ((n : Int) / 2 ^ p.toNat % (1 + 1)) = ((n / 2 ^ p.toNat % 2 : Nat) : Int) := by
    rw [Int.natCast_emod, Int.natCast_ediv, Int.natCast_pow]; rfl
  rw [e]
  show _ ↔ decide (n / 2 ^ p.toNat % 2 = 1) = false
  rw [decide_eq_false_iff_not]
  omega
theorem ows0 : mv_ows 0 (fun _ => false) := ⟨by decide, by decide, fun p _ _ => by rw [tb_i (by decide)]; exact ⟨fun _ => rfl, fun _ => Nat.zero_testBit _⟩⟩
theorem ows_or {w : Int} {o : Int → Bool} {q : Int} (hw : mv_ows w o) (h0 : 0 ≤ q) (h1 : q < 12) : mv_ows ((w.toNat ||| (1 * 2 ^ q.toNat : Int).toNat : Nat) : Int) (fun r => if r = q then true else o r) := by
  obtain ⟨w0, w1, w2⟩ := hw
  have e1 : (1 * 2 ^ q.toNat : Int).toNat = 2 ^ q.toNat := by
    rw [Int.one_mul, show (2 : Int) ^ q.toNat = ((2 ^ q.toNat : Nat) : Int) from by rw [Int.natCast_pow]; rfl, Int.toNat_natCast]
  rw [e1]
  have b1 : w.toNat < 2 ^ 12 := by have : (2 : Nat) ^ 12 = 4096 := rfl; omega
  have b2 : 2 ^ q.toNat < 2 ^ 12 := Nat.pow_lt_pow_right (by decide) (by omega)
  have b3 := Nat.or_lt_two_pow b1 b2
  have b4 : (2 : Nat) ^ 12 = 4096 := rfl
  refine ⟨Int.natCast_nonneg _, by omega, fun p hp0 hp1 => ?_⟩
  rw [tb_i (Int.natCast_nonneg _), Int.toNat_natCast, Nat.testBit_or, Nat.testBit_two_pow]
  dsimp only
  have h3 := w2 p hp0 hp1
  rw [tb_i w0] at h3
  by_cases hpq : p = q
  · subst hpq
    rw [if_pos rfl, decide_eq_true rfl, Bool.or_true]
  · rw [if_neg hpq, decide_eq_false (by omega), Bool.or_false]
    exact h3
section SVP
variable {h : mv_H} {v w : sv} {A : lg} {l t i q u : Int} {x : xt}
theorem StV.put1 (hv : StV h v A) (hl : LnX h l x) (h0 : gn A < 24) (h1 : 0 ≤ t) (h2 : t = gT A) (h3 : t < 12) (e1 : w.1 = (gn A : Int) + 1) (e2 : w.2.1 = (gT A : Int) + 1) (e3 : ∀ k, w.2.2.1 k = mv_up v.2.2.1 (gn A) l k) (e4 : ∀ k, w.2.2.2.1 k = mv_up v.2.2.2.1 (gn A) t k) (e5 : ∀ k, w.2.2.2.2.1 k = mv_up v.2.2.2.2.1 t l k) (e6 : ∀ k, w.2.2.2.2.2 k = mv_up v.2.2.2.2.2 t 0 k) : StV h w (gput A x t) := by
  obtain ⟨v0, v1, v2, v3, v4, v5, v6⟩ := hv
  obtain ⟨b1, b2, b3, b4⟩ := v0
  have ho := hl.ok
  unfold gput
  rw [if_pos ⟨h0, h1, by omega, h3⟩, if_pos h2]
  refine ⟨⟨by show gn A + 1 ≤ 24; omega, by show gT A + 1 ≤ 12; omega, fun k h4 h5 => ?_, fun k h4 h5 => ?_⟩, e1, e2, fun k h4 h5 => ?_, fun k h4 h5 => ?_, fun k h4 h5 => ?_, fun k h4 h5 => ?_⟩
  · have h5 : k < (gn A : Int) + 1 := h5
    show 0 ≤ gu A.2.2.2.1 (gn A) t k ∧ gu A.2.2.2.1 (gn A) t k ≤ 12 ∧ xok (gu A.2.2.1 (gn A) x k)
    by_cases hk : k = gn A
    · subst hk; rw [gu_s, gu_s]; exact ⟨h1, by omega, ho⟩
    · rw [gu_n hk, gu_n hk]; exact b3 k h4 (by omega)
  · have h5 : k < (gT A : Int) + 1 := h5
    show xok (gu A.2.2.2.2.1 t x k)
    by_cases hk : k = t
    · subst hk; rw [gu_s]; exact ho
    · rw [gu_n hk]; exact b4 k h4 (by omega)
  · have h5 : k < (gn A : Int) + 1 := h5
    show LnX h (w.2.2.1 k) (gu A.2.2.1 (gn A) x k)
    rw [e3]
    by_cases hk : k = gn A
    · subst hk; rw [gu_s, up_s]; exact hl
    · rw [gu_n hk, up_n hk]; exact v3 k h4 (by omega)
  · have h5 : k < (gn A : Int) + 1 := h5
    show w.2.2.2.1 k = gu A.2.2.2.1 (gn A) t k
    rw [e4]
    by_cases hk : k = gn A
    · subst hk; rw [gu_s, up_s]
    · rw [gu_n hk, up_n hk]; exact v4 k h4 (by omega)
  · have h5 : k < (gT A : Int) + 1 := h5
    show LnX h (w.2.2.2.2.1 k) (gu A.2.2.2.2.1 t x k)
    rw [e5]
    by_cases hk : k = t
    · subst hk; rw [gu_s, up_s]; exact hl
    · rw [gu_n hk, up_n hk]; exact v5 k h4 (by omega)
  · have h5 : k < (gT A : Int) + 1 := h5
    show mv_ows (w.2.2.2.2.2 k) (gu A.2.2.2.2.2 t (fun _ => false) k)
    rw [e6]
    by_cases hk : k = t
    · subst hk; rw [gu_s, up_s]; exact ows0
    · rw [gu_n hk, up_n hk]; exact v6 k h4 (by omega)
theorem StV.put2 (hv : StV h v A) (hl : LnX h l x) (h0 : gn A < 24) (h1 : 0 ≤ t) (h2 : t < gT A) (e1 : w.1 = (gn A : Int) + 1) (e2 : w.2.1 = (gT A : Int)) (e3 : ∀ k, w.2.2.1 k = mv_up v.2.2.1 (gn A) l k) (e4 : ∀ k, w.2.2.2.1 k = mv_up v.2.2.2.1 (gn A) t k) (e5 : w.2.2.2.2.1 = v.2.2.2.2.1) (e6 : w.2.2.2.2.2 = v.2.2.2.2.2) : StV h w (gput A x t) := by
  obtain ⟨v0, v1, v2, v3, v4, v5, v6⟩ := hv
  obtain ⟨b1, b2, b3, b4⟩ := v0
  have ho := hl.ok
  unfold gput
  rw [if_pos ⟨h0, h1, by omega, by omega⟩, if_neg (by omega)]
  refine ⟨⟨by show gn A + 1 ≤ 24; omega, b2, fun k h4 h5 => ?_, b4⟩, e1, e2, fun k h4 h5 => ?_, fun k h4 h5 => ?_, fun k h4 h5 => ?_, fun k h4 h5 => ?_⟩
  · have h5 : k < (gn A : Int) + 1 := h5
    show 0 ≤ gu A.2.2.2.1 (gn A) t k ∧ gu A.2.2.2.1 (gn A) t k ≤ 12 ∧ xok (gu A.2.2.1 (gn A) x k)
    by_cases hk : k = gn A
    · subst hk; rw [gu_s, gu_s]; exact ⟨h1, by omega, ho⟩
    · rw [gu_n hk, gu_n hk]; exact b3 k h4 (by omega)
  · have h5 : k < (gn A : Int) + 1 := h5
    show LnX h (w.2.2.1 k) (gu A.2.2.1 (gn A) x k)
    rw [e3]
    by_cases hk : k = gn A
    · subst hk; rw [gu_s, up_s]; exact hl
    · rw [gu_n hk, up_n hk]; exact v3 k h4 (by omega)
  · have h5 : k < (gn A : Int) + 1 := h5
    show w.2.2.2.1 k = gu A.2.2.2.1 (gn A) t k
    rw [e4]
    by_cases hk : k = gn A
    · subst hk; rw [gu_s, up_s]
    · rw [gu_n hk, up_n hk]; exact v4 k h4 (by omega)
  · rw [e5]; exact v5 k h4 h5
  · rw [e6]; exact v6 k h4 h5
theorem StV.dropT (hv : StV h v A) (h1 : 0 ≤ t) (h2 : t < gT A) (e1 : w.1 = (gn A : Int)) (e2 : w.2.1 = (gT A : Int) - 1) (e3 : w.2.2.1 = v.2.2.1) (e4 : ∀ k : Int, 0 ≤ k → k < gn A → w.2.2.2.1 k = if t < v.2.2.2.1 k then v.2.2.2.1 k - 1 else v.2.2.2.1 k) (e5 : ∀ k : Int, k < (gT A : Int) - 1 → w.2.2.2.2.1 k = if t ≤ k then v.2.2.2.2.1 (k + 1) else v.2.2.2.2.1 k) (e6 : ∀ k : Int, k < (gT A : Int) - 1 → w.2.2.2.2.2 k = if t ≤ k then v.2.2.2.2.2 (k + 1) else v.2.2.2.2.2 k) : StV h w (gdropT A t) := by
  obtain ⟨v0, v1, v2, v3, v4, v5, v6⟩ := hv
  obtain ⟨b1, b2, b3, b4⟩ := v0
  unfold gdropT
  rw [if_pos ⟨h1, h2⟩]
  refine ⟨⟨b1, by show gT A - 1 ≤ 12; omega, fun k h4 h5 => ?_, fun k h4 h5 => ?_⟩, e1, by show w.2.1 = ((gT A - 1 : Nat) : Int); omega, fun k h4 h5 => ?_, fun k h4 h5 => ?_, fun k h4 h5 => ?_, fun k h4 h5 => ?_⟩
  · show 0 ≤ (if t < gP A k then gP A k - 1 else gP A k) ∧ (if t < gP A k then gP A k - 1 else gP A k) ≤ 12 ∧ xok (gL A k)
    have h6 := b3 k h4 h5
    refine ⟨?_, ?_, h6.2.2⟩ <;> split <;> omega
  · have h5 : k < ((gT A - 1 : Nat) : Int) := h5
    show xok (if k < t then gS A k else gS A (k + 1))
    split
    · exact b4 k h4 (by omega)
    · exact b4 (k + 1) (by omega) (by omega)
  · rw [e3]; exact v3 k h4 h5
  · rw [e4 k h4 h5, v4 k h4 h5]; rfl
  · have h5 : k < ((gT A - 1 : Nat) : Int) := h5
    show LnX h (w.2.2.2.2.1 k) (if k < t then gS A k else gS A (k + 1))
    rw [e5 k (by omega)]
    by_cases hk : k < t
    · rw [if_pos hk, if_neg (by omega)]; exact v5 k h4 (by omega)
    · rw [if_neg hk, if_pos (by omega)]; exact v5 (k + 1) (by omega) (by omega)
  · have h5 : k < ((gT A - 1 : Nat) : Int) := h5
    show mv_ows (w.2.2.2.2.2 k) ((if k < t then gO A k else gO A (k + 1)))
    rw [e6 k (by omega)]
    by_cases hk : k < t
    · rw [if_pos hk, if_neg (by omega)]; exact v6 k h4 (by omega)
    · rw [if_neg hk, if_pos (by omega)]; exact v6 (k + 1) (by omega) (by omega)
theorem StV.drop1 (hv : StV h v A) (h1 : 0 ≤ i) (h2 : i < gn A) (e1 : w.1 = (gn A : Int) - 1) (e2 : w.2.1 = (gT A : Int)) (e3 : ∀ k : Int, k < (gn A : Int) - 1 → w.2.2.1 k = if i ≤ k then v.2.2.1 (k + 1) else v.2.2.1 k) (e4 : ∀ k : Int, k < (gn A : Int) - 1 → w.2.2.2.1 k = if i ≤ k then v.2.2.2.1 (k + 1) else v.2.2.2.1 k) (e5 : w.2.2.2.2 = v.2.2.2.2) : StV h w (gdrop1 A i) := by
  obtain ⟨v0, v1, v2, v3, v4, v5, v6⟩ := hv
  obtain ⟨b1, b2, b3, b4⟩ := v0
  refine ⟨⟨by show gn A - 1 ≤ 24; omega, b2, fun k h4 h5 => ?_, b4⟩, by show w.1 = ((gn A - 1 : Nat) : Int); omega, e2, fun k h4 h5 => ?_, fun k h4 h5 => ?_, ?_, ?_⟩
  · have h5 : k < ((gn A - 1 : Nat) : Int) := h5
    show 0 ≤ (if k < i then gP A k else gP A (k + 1)) ∧ (if k < i then gP A k else gP A (k + 1)) ≤ 12 ∧ xok (if k < i then gL A k else gL A (k + 1))
    by_cases hk : k < i
    · rw [if_pos hk, if_pos hk]; exact b3 k h4 (by omega)
    · rw [if_neg hk, if_neg hk]; exact b3 (k + 1) (by omega) (by omega)
  · have h5 : k < ((gn A - 1 : Nat) : Int) := h5
    show LnX h (w.2.2.1 k) (if k < i then gL A k else gL A (k + 1))
    rw [e3 k (by omega)]
    by_cases hk : k < i
    · rw [if_pos hk, if_neg (by omega)]; exact v3 k h4 (by omega)
    · rw [if_neg hk, if_pos (by omega)]; exact v3 (k + 1) (by omega) (by omega)
  · have h5 : k < ((gn A - 1 : Nat) : Int) := h5
    show w.2.2.2.1 k = (if k < i then gP A k else gP A (k + 1))
    rw [e4 k (by omega)]
    by_cases hk : k < i
    · rw [if_pos hk, if_neg (by omega)]; exact v4 k h4 (by omega)
    · rw [if_neg hk, if_pos (by omega)]; exact v4 (k + 1) (by omega) (by omega)
  · rw [e5]; exact v5
  · rw [e5]; exact v6
theorem StV.opn (hv : StV h v A) (h1 : 0 ≤ t) (h2 : t < gT A) (h3 : 0 ≤ q) (h4 : q < 12) (e1 : w.1 = v.1) (e2 : w.2.1 = v.2.1) (e3 : w.2.2.1 = v.2.2.1) (e4 : w.2.2.2.1 = v.2.2.2.1) (e5 : w.2.2.2.2.1 = v.2.2.2.2.1) (e6 : w.2.2.2.2.2 = mv_up v.2.2.2.2.2 t (((v.2.2.2.2.2 t).toNat ||| (1 * 2 ^ q.toNat : Int).toNat : Nat) : Int)) : StV h w (gopen A t q) := by
  obtain ⟨v0, v1, v2, v3, v4, v5, v6⟩ := hv
  unfold gopen
  rw [if_pos ⟨h1, h2, h3, h4⟩]
  refine ⟨v0, e1.trans v1, e2.trans v2, ?_, ?_, ?_, fun k h5 h6 => ?_⟩
  · rw [e3]; exact v3
  · rw [e4]; exact v4
  · rw [e5]; exact v5
  · rw [e6]
    show mv_ows _ (gu A.2.2.2.2.2 t (fun r => if r = q then true else gO A t r) k)
    by_cases hk : k = t
    · subst hk; rw [up_s, gu_s]; exact ows_or (v6 k h5 h6) h3 h4
    · rw [up_n hk, gu_n hk]; exact v6 k h5 h6
theorem StV.mv (hv : StV h v A) (h1 : 0 ≤ t) (h2 : t ≤ 12) (e1 : w.1 = v.1) (e2 : w.2.1 = v.2.1) (e3 : w.2.2.1 = v.2.2.1) (e4 : ∀ k : Int, 0 ≤ k → k < gn A → w.2.2.2.1 k = if v.2.2.2.1 k = u then t else v.2.2.2.1 k) (e5 : w.2.2.2.2 = v.2.2.2.2) : StV h w (gmv A u t) := by
  obtain ⟨v0, v1, v2, v3, v4, v5, v6⟩ := hv
  obtain ⟨b1, b2, b3, b4⟩ := v0
  refine ⟨⟨b1, b2, fun k h4 h5 => ?_, b4⟩, e1.trans v1, e2.trans v2, ?_, fun k h4 h5 => ?_, ?_, ?_⟩
  · show 0 ≤ (if gP A k = u then t else gP A k) ∧ (if gP A k = u then t else gP A k) ≤ 12 ∧ xok (gL A k)
    have h6 := b3 k h4 h5
    refine ⟨?_, ?_, h6.2.2⟩ <;> split <;> omega
  · rw [e3]; exact v3
  · rw [e4 k h4 h5, v4 k h4 h5]; rfl
  · rw [e5]; exact v5
  · rw [e5]; exact v6
end SVP
