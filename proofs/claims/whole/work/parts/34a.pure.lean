/-! a switch; commands -/
section TSW
variable {sc : Int × (Int → Int)} {y pc : Nat} {K : mv_K} {a : Int} {ls r : List mv_V} {c : mv_C} {h : mv_H} {Q : mv_R → mv_C → mv_H → Prop}
theorem e_tsw {d lo hi x : Int} {offs : Array Int} {td : Nat} (hK : (mv_m y).1 = K) (hg : mv_get K pc = some (.tableswitch d lo hi offs, a)) (h1 : mv_i x) (hl : hi - lo + 1 = (offs.toList.length : Int)) (ht : (pc : Int) + d = td) (ho : ∀ j : Nat, j < offs.toList.length → 0 ≤ (pc : Int) + offs.toList.getD j 0) (k0 : (x < lo ∨ hi < x) → mv_Ev sc y td ls r c h Q) (k : ∀ j : Nat, j < offs.toList.length → x = lo + j → mv_Ev sc y ((pc : Int) + offs.toList.getD j 0).toNat ls r c h Q) : mv_Ev sc y pc ls ((0, x) :: r) c h Q := by
  by_cases hx : x < lo ∨ hi < x
  · exact e_step hK hg rfl (by simp only [mv_step, mv_jmp]; rw [if_pos h1, if_pos hx, if_pos (by omega), show ((pc : Int) + d).toNat = td from by omega]) (k0 hx)
  · have hj : (x - lo).toNat < offs.toList.length := by omega
    have e : offs[(x - lo).toNat]? = some (offs.toList.getD (x - lo).toNat 0) := by
      rw [← Array.getElem?_toList, List.getD_eq_getElem?_getD, List.getElem?_eq_getElem hj]; rfl
    exact e_step hK hg rfl (by simp only [mv_step, mv_jmp]; rw [if_pos h1, if_neg hx, e]; dsimp only; rw [if_pos (ho _ hj)]) (k (x - lo).toNat hj (by omega))
end TSW
def sg4 (v : Int) : Nat → Int
  | 0 => v
  | k + 1 => (sg4 v k).tdiv 10000
theorem sg4_b {v : Int} (h : 0 ≤ v) (hl : mv_l v) : ∀ k, 0 ≤ sg4 v k ∧ sg4 v k ≤ v
  | 0 => ⟨h, Int.le_refl _⟩
  | k + 1 => by
    have h1 := sg4_b h hl k
    show 0 ≤ (sg4 v k).tdiv 10000 ∧ (sg4 v k).tdiv 10000 ≤ v
    rw [Int.tdiv_eq_ediv_of_nonneg h1.1]
    omega
/-- what a command makes of a log -/
def gag (A : lg) (i : Int) : Bool × lg := if 0 ≤ i ∧ i < gn A then (if gtf A (gl A i) = -9999 then (false, A) else (true, gput A (gl A i) (gtf A (gl A i)))) else (false, A)
def grm (A : lg) (i : Int) : Bool × lg := if 0 ≤ i ∧ i < gn A then (true, gdrop A i) else (false, A)
def gop (A : lg) (t p : Int) : Bool × lg := if gk A t p = 0 then (true, gopen A t p) else (false, A)
def gcm (A : lg) (k o : Int) : Bool × lg :=
  if k = 1 then (if o.tmod 10 = 0 then gag A (o.tdiv 10) else (false, A))
  else if k = 2 then (if o.tmod 10 = 0 then grm A (o.tdiv 10) else (false, A))
  else if k = 3 then (if o = 0 then (decide (glv A ≠ -9999), gle A) else (false, A))
  else if k = 4 then (if o = 0 then (true, gall A 12) else (false, A))
  else if k = 5 then (if o.tmod 10 = 0 then gop A ((o.tdiv 10).tdiv 10) ((o.tdiv 10).tmod 10) else (false, A))
  else if k = 6 then (if o = 0 ∧ (gtk A (gn A)).1 = true then (true, (gtk A (gn A)).2) else (false, A))
  else if k = 7 then (decide (o < 100 ∧ (gT A : Int) ≤ o), A)
  else if k = 8 then (decide (cal A ≤ o), A)
  else if k = 9 then (decide (0 ≤ o.tdiv 10 ∧ o.tdiv 10 < gn A ∧ gt A (o.tdiv 10) = o.tmod 10), A)
  else (false, A)
theorem glv_b {A : lg} (hB : gB A) : glv A = -9999 ∨ (0 ≤ glv A ∧ glv A ≤ 1211) := by
  have h := glt_b A
  have h2 := hB.2.1
  unfold glv
  split <;> omega
