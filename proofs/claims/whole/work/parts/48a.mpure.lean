/-! the reference: settling (written by wip/whole/m48.py) -/
section ST
variable {A : lg} {R U V : Int → Int} {x : xt}
theorem Rw_settle (hR : Rw R A) (hI : gI A) (hx : xok x) (hl : Rl R (gn A) x) (hn : gn A ≤ 24) (hT : gT A ≤ 12)
    (q1 : U 1 = if gff A x = -9999 then (gT A : Int) + 1 else gT A) (qo : ∀ q : Int, q ≠ 1 → (q < 1052 + 13 * gT A ∨ 1052 + 13 * gT A + 13 ≤ q) → U q = R q)
    (qn : gff A x = -9999 → U (1052 + 13 * gT A) = xn x ∧ ∀ p : Int, 0 ≤ p → p < xn x → U (1052 + 13 * gT A + 1 + p) = xk x p)
    (v0 : V 0 = gn A + 1) (v1 : V (2 + 42 * gn A + 1) = gnw A x) (vo : ∀ q : Int, q ≠ 0 → q ≠ 2 + 42 * gn A + 1 → V q = U q) : Rw V (gpu A x (gnw A x)) := by
  refine Rw_put hR hI hx v0 ?_ (fun i i0 i1 k k0 k1 => ?_) (Rl_cg hx hl (fun k k0 k1 k2 => ?_)) v1 (fun t t0 t1 k k0 k1 => ?_) (fun hg => ⟨?_, fun p p0 p1 => ?_⟩)
  · rw [vo 1 (by omega) (by omega)]; exact q1
  · rw [vo _ (by omega) (by omega), qo _ (by omega) (by omega)]
  · rw [vo _ (by omega) (by omega), qo _ (by omega) (by omega)]
  · rw [vo _ (by omega) (by omega), qo _ (by omega) (by omega)]
  · rw [vo _ (by omega) (by omega)]; exact (qn hg).1
  · rw [vo _ (by omega) (by omega)]; exact (qn hg).2 p p0 p1
end ST
theorem mH_l {h : mv_H} {v : mvt} {b : Int} (h1 : 265 ≤ b) (h2 : b ≤ 275) : (mH h v b).2.1 = md_l b := by rw [mH_a h1 h2]
/-- nothing but the object a has changed -/
def mq (a : Int) (v w : mvt) : Prop := ∀ b : Int, b ≠ a → w b = v b
theorem mq_r (a : Int) (v : mvt) : mq a v v := fun _ _ => rfl
theorem mq_o {a : Int} {v w : mvt} (h : mq a v w) : mo a v w := fun b _ _ _ h4 => h b h4
