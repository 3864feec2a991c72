/-! the face: simulations, scripts (written by wip/whole/m64.py) -/
def gQ (p : xt → Prop) (A : lg) : Prop := (∀ i : Int, 0 ≤ i → i < gn A → p (gL A i)) ∧ ∀ t : Int, 0 ≤ t → t < gT A → p (gS A t)
section GQQ
variable {p p' : xt → Prop} {A : lg} {x : xt} {t : Int}
theorem gQ_mo (h : gQ p A) (hm : ∀ x, p x → p' x) : gQ p' A := ⟨fun i i0 i1 => hm _ (h.1 i i0 i1), fun t t0 t1 => hm _ (h.2 t t0 t1)⟩
theorem gQ_put (h : gQ p A) (hx : p x) : gQ p (gput A x t) := by
  unfold gput
  split
  · split
    · refine ⟨fun i i0 i1 => ?_, fun s s0 s1 => ?_⟩
      · show p (gu A.2.2.1 (gn A) x i)
        by_cases e : i = gn A
        · rw [e, gu_s]; exact hx
        · rw [gu_n e]; exact h.1 i i0 (by have : i < ((gn A + 1 : Nat) : Int) := i1; omega)
      · show p (gu A.2.2.2.2.1 t x s)
        by_cases e : s = t
        · rw [e, gu_s]; exact hx
        · rw [gu_n e]; exact h.2 s s0 (by have : s < ((gT A + 1 : Nat) : Int) := s1; omega)
    · refine ⟨fun i i0 i1 => ?_, fun s s0 s1 => h.2 s s0 s1⟩
      show p (gu A.2.2.1 (gn A) x i)
      by_cases e : i = gn A
      · rw [e, gu_s]; exact hx
      · rw [gu_n e]; exact h.1 i i0 (by have : i < ((gn A + 1 : Nat) : Int) := i1; omega)
  · exact h
theorem gQ_gle (h : gQ p A) : gQ p (gle A) := by
  unfold gle
  split
  · exact h
  · obtain ⟨e1, e2, e3, -, e5, -⟩ := gop_same (A := A) (t := glt A) (q := god A (glt A) (glq A (glt A)))
    generalize gopen A (glt A) (god A (glt A) (glq A (glt A))) = B at e1 e2 e3 e5
    have hB : gQ p (gmv B (glq A (glt A)) (glt A)) := ⟨fun i i0 i1 => by show p (gL B i); rw [e3]; exact h.1 i i0 (by rw [← e1]; exact i1), fun s s0 s1 => by show p (gS B s); rw [e5]; exact h.2 s s0 (by rw [← e2]; exact s1)⟩
    unfold gmove
    generalize gmv B (glq A (glt A)) (glt A) = D at hB
    unfold gdropT
    split
    · refine ⟨fun i i0 i1 => hB.1 i i0 i1, fun s s0 s1 => ?_⟩
      have s1 : s < ((gT D - 1 : Nat) : Int) := s1
      show p (if s < _ then gS D s else gS D (s + 1))
      split
      · exact hB.2 s s0 (by omega)
      · exact hB.2 (s + 1) (by omega) (by omega)
    · exact hB
theorem gQ_gall : ∀ (k : Nat) {A : lg}, gQ p A → gQ p (gall A k)
  | 0, _, h => h
  | k + 1, A, h => by
    show gQ p (if glv A = -9999 then A else gall (gle A) k)
    split
    · exact h
    · exact gQ_gall k (gQ_gle h)
end GQQ
theorem StA.kg {h h' : mv_H} {s : Int} {A : lg} {p : xt → Prop} (hs : StA h s A) (hq : gQ p A) (hk : ∀ b : Int, (2 ≤ b ∧ b ≤ 7) ∨ (s ≤ b ∧ b ≤ s + 4) → h' b = h b) (hl : ∀ x, p x → ∀ b : Int, x.2 (-1) ≤ b → b ≤ x.2 (-1) + 5 → h' b = h b) : StA h' s A := by
  obtain ⟨a1, a2, a3, a4, a5, a6, a7, a8⟩ := hs
  have hx : ∀ (l : Int) (x : xt), LnX h l x → p x → LnX h' l x := fun l x q px => q.kept (fun b b0 b1 => hl x px b (by rw [q.1.2]; exact b0) (by rw [q.1.2]; exact b1))
  refine ⟨a1.kq (fun b hb => hk b (by omega)), a2, ?_, ?_, fun i i0 i1 => ?_, fun i i0 i1 => ?_, fun t t0 t1 => ?_, fun t t0 t1 => ?_⟩
  · rw [hk s (by omega)]; exact a3
  · rw [hk s (by omega)]; exact a4
  · rw [hk (s + 1) (by omega)]; exact hx _ _ (a5 i i0 i1) (hq.1 i i0 i1)
  · rw [hk (s + 2) (by omega)]; exact a6 i i0 i1
  · rw [hk (s + 3) (by omega)]; exact hx _ _ (a7 t t0 t1) (hq.2 t t0 t1)
  · rw [hk (s + 4) (by omega)]; exact a8 t t0 t1
/-- lines of calls, or of the first u that are simulated -/
def rfs (u m : Nat) (x : xt) : Prop := rfx m x ∨ (15 ≤ x.2 (-1) ∧ x.2 (-1) + 6 ≤ 15 + 6 * u)
def smx (x : Int) : Int := x * 6364136223846793005 + 1442695040888963407
def smr (x : Int) : Int := x % 18446744073709551616 / 2 ^ (33 : Int).toNat
def smv (x v : Int) : Int := v + (smr (smx x)).tmod 3
def smt (x v : Int) (u : Nat) : xt := xtg (stx (smr (smx x)) (smv x v)).1 (stx (smr (smx x)) (smv x v)).2 (15 + 6 * u)
def sml : Nat → Int → Int → Nat → lg → lg
  | 0, _, _, _, D => D
  | k + 1, x, v, u, D => if gtf D (smt x v u) = -9999 then sml k (smx x) (smv x v) u (gall D 12) else sml k (smx x) (smv x v) (u + 1) (gput D (smt x v u) (gtf D (smt x v u)))
theorem smr_b (x : Int) : 0 ≤ smr x ∧ smr x ≤ 2147483647 := by
  unfold smr
  rw [show (2 : Int) ^ (33 : Int).toNat = 8589934592 from rfl]
  omega
theorem smv_b {x v : Int} : v ≤ smv x v ∧ smv x v ≤ v + 2 := by
  have h := smr_b (smx x)
  unfold smv
  rw [Int.tmod_eq_emod_of_nonneg h.1]
  omega
def sp_sim (W : wt) (x k : Int) : spt := if 1 ≤ k ∧ k ≤ 30 then (0, 1000 * (gT (sml k.toNat x 7 0 (wA W)) : Int) + (if cal (sml k.toNat x 7 0 (wA W)) ≤ 999 then cal (sml k.toNat x 7 0 (wA W)) else 999), W) else (1, 0, W)
def scr (s n : Int) : Nat → lg → Int
  | 0, _ => -9999
  | m + 1, D => if (gcm D (((sg4 s m).tmod 10000).tdiv 1000) (((sg4 s m).tmod 10000).tmod 1000)).1 = true then scr s n m (gcm D (((sg4 s m).tmod 10000).tdiv 1000) (((sg4 s m).tmod 10000).tmod 1000)).2 else n - (m + 1 : Nat)
def sp_run (W : wt) (n s : Int) : spt := if (1 ≤ n ∧ n ≤ 4) ∧ 0 ≤ s ∧ sg4 s n.toNat = 0 then (0, scr s n n.toNat (wA W), W) else (1, 0, W)
theorem scr_b (s n : Int) (h0 : 0 ≤ n) (h1 : n ≤ 4) : ∀ (m : Nat) (D : lg), (m : Int) ≤ n → scr s n m D = -9999 ∨ (0 ≤ scr s n m D ∧ scr s n m D ≤ 4)
  | 0, _, _ => Or.inl rfl
  | m + 1, D, h => by
    unfold scr
    split
    · exact scr_b s n h0 h1 m _ (by omega)
    · omega
