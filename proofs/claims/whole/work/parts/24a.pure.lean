/-! more of texts: what stays when a line is written; equal pieces; digits -/
theorem LnW.put {h : mv_H} {l k v : Int} (hw : LnW h l) (hk : 5 ≤ k) : LnW (mv_uo h l ((h l).1, (h l).2.1, mv_up (h l).2.2 k v)) l := by
  unfold LnW at *
  rw [uo_s, uo_n (show l + 1 ≠ l by omega), uo_n (show l + 2 ≠ l by omega), uo_n (show l + 3 ≠ l by omega), uo_n (show l + 4 ≠ l by omega), uo_n (show l + 5 ≠ l by omega)]
  dsimp only
  rw [up_n (show (0 : Int) ≠ k by omega), up_n (show (1 : Int) ≠ k by omega), up_n (show (2 : Int) ≠ k by omega), up_n (show (3 : Int) ≠ k by omega), up_n (show (4 : Int) ≠ k by omega)]
  exact hw
theorem LnW.arr {h : mv_H} {l b : Int} {g : Int → Int} (hw : LnW h l) (h1 : l < b) (h2 : b ≤ l + 5) : LnW (mv_uo h b ((h b).1, (h b).2.1, g)) l := by
  have key : ∀ d : Int, (mv_uo h b ((h b).1, (h b).2.1, g) d).1 = (h d).1 ∧ (mv_uo h b ((h b).1, (h b).2.1, g) d).2.1 = (h d).2.1 := fun d => by
    by_cases hd : d = b
    · subst hd; rw [uo_s]; exact ⟨rfl, rfl⟩
    · rw [uo_n hd]; exact ⟨rfl, rfl⟩
  have k0 : mv_uo h b ((h b).1, (h b).2.1, g) l = h l := uo_n (by omega)
  unfold LnW at *
  rw [k0, (key (l + 1)).1, (key (l + 1)).2, (key (l + 2)).1, (key (l + 2)).2, (key (l + 3)).1, (key (l + 3)).2, (key (l + 4)).1, (key (l + 4)).2, (key (l + 5)).1, (key (l + 5)).2]
  exact hw
theorem px_up {f : Int → Int} {n : Nat} {x : Int} : px (mv_up f n x) n = px f n := px_ext (fun i hi => up_n (by omega))
theorem px_up1 {f : Int → Int} {n : Nat} {x : Int} : px (mv_up f n x) (n + 1) = px_add (px f n) x n := by
  show px_add (px (mv_up f n x) n) (mv_up f n x n) n = _
  rw [px_up, up_s]
theorem px_ok_up {f : Int → Int} {n : Nat} {x : Int} (h : px_ok f n) (ha : px_a (px f n) n x) : px_ok (mv_up f n x) (n + 1) := fun i hi => by
  by_cases hin : i = n
  · subst hin
    rw [px_up, up_s]; exact ha
  · have hi' : i < n := by omega
    rw [px_ext (g := f) (fun j hj => up_n (by omega)), up_n (by omega)]
    exact h i hi'
/-- the first k characters from s on here, and from u on there, are equal -/
def px_e (f g : Int → Int) (s u : Int) : Nat → Bool
  | 0 => true
  | k + 1 => px_e f g s u k && decide (f (s + k) = g (u + k))
theorem px_e_le {f g : Int → Int} {s u : Int} : ∀ {j k : Nat}, k ≤ j → px_e f g s u j = true → px_e f g s u k = true
  | 0, k, hk, h => by rw [Nat.le_zero.mp hk]; rfl
  | j + 1, k, hk, h => by
    by_cases hkj : k = j + 1
    · rw [hkj]; exact h
    · unfold px_e at h
      exact px_e_le (by omega) ((Bool.and_eq_true _ _).mp h).1
theorem px_e_at {f g : Int → Int} {s u : Int} {j k : Nat} (hk : k < j) (h : px_e f g s u j = true) : f (s + k) = g (u + k) := by
  have h1 := px_e_le (k := k + 1) (by omega) h
  unfold px_e at h1
  exact of_decide_eq_true ((Bool.and_eq_true _ _).mp h1).2
/-- piece p here is written as piece q there -/
def px_w (n1 : Nat) (f1 : Int → Int) (p : Int) (n2 : Nat) (f2 : Int → Int) (q : Int) : Bool :=
  decide (0 ≤ p) && decide (p < (px f1 n1).1) && decide (0 ≤ q) && decide (q < (px f2 n2).1) && decide ((px f1 n1).2.2.2.1 p = (px f2 n2).2.2.2.1 q) && px_e f1 f2 ((px f1 n1).2.2.1 p) ((px f2 n2).2.2.1 q) ((px f1 n1).2.2.2.1 p).toNat
/-- a tenth, so many times -/
def px_10 (v : Int) : Nat → Int
  | 0 => v
  | k + 1 => (px_10 v k).tdiv 10
theorem px_10b {v : Int} (h0 : 0 ≤ v) : ∀ k, 0 ≤ px_10 v k ∧ px_10 v k ≤ v
  | 0 => ⟨h0, Int.le_refl _⟩
  | k + 1 => by
    have h1 := px_10b h0 k
    have h2 := (nu_tdb (x := px_10 v k) (y := 10) (by decide)).1 h1.1
    show 0 ≤ (px_10 v k).tdiv 10 ∧ (px_10 v k).tdiv 10 ≤ v
    omega
/-- how many digits: the least d from 1 on with a tenth d times 0 (at most 10) -/
def px_dg (v : Int) : Nat → Nat → Nat
  | 0, d => d
  | m + 1, d => if px_10 v d ≤ 0 then d else px_dg v m (d + 1)
theorem px_cb {f : Int → Int} {n : Nat} (h : px_ok f n) {k : Int} (h0 : 0 ≤ k) (h1 : k < n) : 32 ≤ f k ∧ f k ≤ 122 := by
  have h2 := h k.toNat (by omega)
  rw [Int.toNat_of_nonneg h0] at h2
  exact (px_kb (f k)).2.2 h2.1
theorem px_chi {f : Int → Int} {n : Nat} (h : px_ok f n) {k : Int} (h0 : 0 ≤ k) (h1 : k < n) : mv_i (f k) := by
  have := px_cb h h0 h1
  exact ⟨by omega, by omega⟩
