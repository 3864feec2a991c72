/-! the reference: pure facts on kinds (written by wip/whole/m46.py) -/
theorem px_kf {f : Int → Int} : ∀ {n : Nat}, px_ok f n → ∀ p : Int, 0 ≤ p → p < (px f n).1 → (px f n).2.1 p = px_k (f ((px f n).2.2.1 p))
  | 0, _, p, h0, h1 => absurd h1 (by show ¬ p < 0; omega)
  | n + 1, h, p, h0, h1 => by
    have h' : px_ok f n := fun i hi => h i (by omega)
    have g := px_kf h'
    have h1 : p < (px_add (px f n) (f n) n).1 := h1
    show (px_add (px f n) (f n) n).2.1 p = px_k (f ((px_add (px f n) (f n) n).2.2.1 p))
    generalize hP : px f n = P at g h1
    rw [px_n1] at h1
    unfold px_add
    cases hg : px_g P (px_k (f n)) with
    | true =>
      rw [if_pos hg] at h1
      exact g p h0 h1
    | false =>
      rw [if_neg (by rw [hg]; decide)] at h1
      show mv_up P.2.1 P.1 (px_k (f n)) p = px_k (f (mv_up P.2.2.1 P.1 n p))
      by_cases hp : p = P.1
      · subst hp; rw [up_s, up_s]
      · rw [up_n hp, up_n hp]; exact g p h0 (by omega)
theorem xk_c {x : xt} (hx : xok x) {p : Int} (h0 : 0 ≤ p) (h1 : p < xn x) : xk x p = px_k (x.2 (xs x p)) := by
  rw [xk_p h0 h1, xs_p h0 h1]; exact px_kf hx p h0 h1
theorem xw_k {x y : xt} {p q : Int} (hx : xok x) (hy : xok y) (h : xw x p y q = true) : xk x p = xk y q := by
  obtain ⟨⟨a1, a2, a3, a4⟩, b, d⟩ := xw_iff.mp h
  have d0 := d 0 (by have := xp_b hx a1 a2; omega)
  rw [show xs x p + ((0 : Nat) : Int) = xs x p from Int.add_zero _, show xs y q + ((0 : Nat) : Int) = xs y q from Int.add_zero _] at d0
  rw [xk_c hx a1 a2, xk_c hy a3 a4, d0]
def mv_M12 (h : mv_H) (v : mvt) (x : Int) (c : mv_C) : mv_R → mv_C → mv_H → Prop := fun r c' h' => r = (0, x) ∧ c' = c ∧ ∃ w, h' = mH h w ∧ Cf v w 12
theorem Cf_t {u v w : mvt} {o : Int} (h1 : Cf u v o) (h2 : Cf v w o) : Cf u w o := ⟨ms_t h1.1 h2.1, fun b q hq => (h2.2 b q hq).trans (h1.2 b q hq)⟩
theorem bo_nb {b : Bool} : mv_bo (!b) = if b = true then 0 else 1 := by cases b <;> rfl
