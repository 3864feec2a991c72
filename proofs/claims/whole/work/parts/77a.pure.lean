/-! the reference's face: lines that are drawn (written by wip/whole/m77.py) -/
/-- digits at the end of a text -/
def dgl (P : px_T) : Int := if 0 < P.1 ∧ P.2.1 (P.1 - 1) = 3 then P.2.2.2.1 (P.1 - 1) else 0
def xJ (x : xt) (d : Int) : Prop := xok x ∧ dgl (px x.2 x.1) ≤ d ∧ 0 ≤ d
section XJ
variable {x : xt} {d c : Int}
def xap (x : xt) (c : Int) : xt := (x.1 + 1, mv_up x.2 x.1 c)
theorem xJ_pa (h : xJ x d) (hn : x.1 < 12) (hc : px_k c ≠ -1) (hd : px_k c = 3 → d < 6) : px_a (px x.2 x.1) x.1 c := by
  have hb := px_okI h.1
  refine ⟨hc, by omega, fun _ => ?_, fun hg h3 => ?_⟩
  · have := hb.2.2.1; omega
  · obtain ⟨-, -, q1, q2⟩ := px_g1 hg
    have h9 := h.2.1
    unfold dgl at h9
    rw [if_pos ⟨q1, q2.trans h3⟩] at h9
    have := hd h3
    omega
theorem xadd_e (h : xJ x d) (hn : x.1 < 12) (hc : px_k c ≠ -1) (hd : px_k c = 3 → d < 6) : xadd x c = xap x c := by
  unfold xadd
  rw [pab_iff.mpr (xJ_pa h hn hc hd)]; rfl
theorem xJ_ap (h : xJ x d) (hn : x.1 < 12) (hc : px_k c ≠ -1) (hd : px_k c = 3 → d < 6) : xJ (xap x c) (if px_k c = 3 then d + 1 else 0) := by
  have ha := xJ_pa h hn hc hd
  refine ⟨px_ok_up h.1 ha, ?_, by split <;> (have := h.2.2; omega)⟩
  show dgl (px (mv_up x.2 x.1 c) (x.1 + 1)) ≤ _
  rw [px_up1]
  have h9 := h.2.1
  obtain ⟨l1, l2⟩ := px_last (P := px x.2 x.1) (c := c) (i := (x.1 : Int))
  have hd0 := h.2.2
  cases hg : px_g (px x.2 x.1) (px_k c) with
  | true =>
    obtain ⟨e1, e2, e3⟩ := l1 hg
    obtain ⟨-, -, q1, q2⟩ := px_g1 hg
    unfold dgl at h9 ⊢
    rw [e2, e3, e1]
    by_cases h3 : px_k c = 3
    · rw [if_pos ⟨q1, q2.trans h3⟩] at h9 ⊢
      rw [if_pos h3]; omega
    · rw [if_neg (fun q => h3 (q2.symm.trans q.2)), if_neg h3]; exact Int.le_refl _
  | false =>
    obtain ⟨e1, e2, e3⟩ := l2 hg
    unfold dgl
    rw [e2, e3]
    by_cases h3 : px_k c = 3
    · rw [if_pos h3]; split <;> omega
    · rw [if_neg (fun q => h3 q.2), if_neg h3]; exact Int.le_refl _
end XJ
/-- what has been laid is the text x -/
def Ah (v : mvt) (x : xt) : Prop := v 264 15 = x.1 ∧ ∀ k : Int, 0 ≤ k → k < x.1 → v 275 k = x.2 k
def mah (v w : mvt) : Prop := (∀ b : Int, b ≠ 264 → b ≠ 275 → w b = v b) ∧ ∀ k : Int, k ≠ 15 → w 264 k = v 264 k
theorem mah_t {u v w : mvt} (h1 : mah u v) (h2 : mah v w) : mah u w := ⟨fun b b1 b2 => (h2.1 b b1 b2).trans (h1.1 b b1 b2), fun k hk => (h2.2 k hk).trans (h1.2 k hk)⟩
theorem Ah_ap {v w : mvt} {x : xt} {c s : Int} (h : Ah v x) (hs : s = x.1) (h1 : w 264 15 = s + 1) (h2 : ∀ q : Int, w 275 q = if q = s then c else v 275 q) : Ah w (xap x c) := by
  subst hs
  refine ⟨h1, fun k k0 k1 => ?_⟩
  have k1 : k < (x.1 : Int) + 1 := k1
  rw [h2]
  show _ = mv_up x.2 x.1 c k
  by_cases e : k = x.1
  · rw [if_pos e, e, up_s]
  · rw [if_neg e, up_n e]; exact h.2 k k0 (by omega)
theorem dgc_k {v : Int} (h : 0 ≤ v) (b : Int) : px_k (dgc v b) = 3 := by
  have := dgc_b h b
  unfold px_k
  rw [if_neg (by omega), if_pos (by omega)]
/-- a number's digits, one behind the other -/
theorem xdig_e {v : Int} (hv : 0 ≤ v) : ∀ (m : Nat) {x : xt} {d : Int}, xJ x d → x.1 + m ≤ 12 → d + m ≤ 6 → (xdig x v m).1 = x.1 + m ∧ xJ (xdig x v m) (d + m) ∧ ∀ k : Int, 0 ≤ k → k < x.1 + m → (xdig x v m).2 k = if k < x.1 then x.2 k else dgc v (m - 1 - (k - x.1))
  | 0, x, d, h, _, _ => ⟨rfl, by rw [show d + ((0 : Nat) : Int) = d from Int.add_zero d]; exact h, fun k k0 k1 => by rw [if_pos (by omega)]; rfl⟩
  | m + 1, x, d, h, h1, h2 => by
    have hk := dgc_k hv (m : Int)
    have e := xadd_e (c := dgc v m) h (by omega) (by omega) (fun _ => by omega)
    have hJ := xJ_ap (c := dgc v m) h (by omega) (by omega) (fun _ => by omega)
    rw [if_pos hk] at hJ
    have ih := xdig_e hv m (x := xap x (dgc v m)) hJ (by show x.1 + 1 + m ≤ 12; omega) (by omega)
    have e9 : xdig x v (m + 1) = xdig (xap x (dgc v m)) v m := by show xdig (xadd x (dgc v m)) v m = _; rw [e]
    rw [e9]
    obtain ⟨i1, i2, i3⟩ := ih
    refine ⟨by rw [i1]; show x.1 + 1 + m = x.1 + (m + 1); omega, by rw [show d + ((m + 1 : Nat) : Int) = d + 1 + m from by omega]; exact i2, fun k k0 k1 => ?_⟩
    have eap : ((xap x (dgc v m)).1 : Int) = (x.1 : Int) + 1 := rfl
    rw [i3 k k0 (by rw [eap]; omega), eap]
    by_cases hk1 : k < x.1
    · rw [if_pos (by omega), if_pos hk1]; exact up_n (by omega)
    · rw [if_neg hk1]
      by_cases hk2 : k = x.1
      · rw [if_pos (by omega), hk2]
        show mv_up x.2 x.1 (dgc v m) x.1 = _
        rw [up_s]; exact congrArg (dgc v) (by omega)
      · rw [if_neg (by omega)]; exact congrArg (dgc v) (by omega)
theorem Ah_num {v w : mvt} {x : xt} {y d s : Int} {D : Nat} (hy : 0 ≤ y) (hD : dgn y = D) (hJ : xJ x d) (h12 : x.1 + D ≤ 12) (h6 : d + D ≤ 6) (h : Ah v x) (hs : s = x.1) (h1 : w 264 15 = s + D) (h2 : ∀ q : Int, w 275 q = if s ≤ q ∧ q < s + D then dgc y (D - 1 - (q - s)) else v 275 q) : Ah w (xnum x y) ∧ xJ (xnum x y) (d + D) ∧ (xnum x y).1 = x.1 + D := by
  subst hs
  have e := xdig_e hy D hJ h12 h6
  have e9 : xnum x y = xdig x y D := by unfold xnum; rw [hD]; rfl
  rw [e9]
  obtain ⟨i1, i2, i3⟩ := e
  refine ⟨⟨by rw [h1, i1]; omega, fun k k0 k1 => ?_⟩, i2, i1⟩
  rw [i1] at k1
  rw [h2, i3 k k0 (by omega)]
  by_cases hk : k < x.1
  · rw [if_neg (by omega), if_pos hk]; exact h.2 k k0 hk
  · rw [if_pos (by omega), if_neg hk]
