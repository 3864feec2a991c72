/-! objects that are made (written by wip/whole/m63.py) -/
section NEW
variable {sc : Int × (Int → Int)} {y pc pc' : Nat} {K : mv_K} {a : Int} {ls r : List mv_V} {h : mv_H} {Q : mv_R → mv_C → mv_H → Prop} {c1 c2 c3 : Nat}
theorem e_new {x ci : Nat} (hK : (mv_m y).1 = K) (hg : mv_get K pc = some (.new x, a)) (h1 : a = (ci : Int)) (h2 : ci < 5) (hp : pc + 3 = pc') (k0 : mv_Ev sc y pc' ls ((2, (c1 : Int)) :: r) (c1 + 1, c2 + 1, c3 + mv_fn ci) (mv_uo h c1 (ci, (mv_fn ci : Int), mv_df ci)) Q) : mv_Ev sc y pc ls r (c1, c2, c3) h Q := by
  subst hp; subst h1
  have hk : mv_ki (.new x) (ci : Int) = 0 := by show (if (ci : Int) < 0 then 3 else 0) = 0; rw [if_neg (by omega)]
  exact e_step hK hg hk (by simp only [mv_step]; rw [if_pos ⟨by omega, by omega⟩]; rfl) k0
theorem e_newarr {t : ArrayType} {n : Int} {k : Nat} (hK : (mv_m y).1 = K) (hg : mv_get K pc = some (.newarray t, a)) (h1 : 0 ≤ n) (h2 : n ≤ 100000) (h3 : mv_ak t = k) (h4 : k < 99) (hp : pc + 2 = pc') (k0 : mv_Ev sc y pc' ls ((2, (c1 : Int)) :: r) (c1 + 1, c2 + 1, c3 + n.toNat) (mv_uo h c1 (k, n, fun _ => 0)) Q) : mv_Ev sc y pc ls ((0, n) :: r) (c1, c2, c3) h Q := by
  subst hp; subst h3
  exact e_step hK hg rfl (by simp only [mv_step]; rw [if_pos ⟨h1, h2, h4⟩]) k0
theorem e_anew {x : Nat} {n : Int} {k : Nat} (hK : (mv_m y).1 = K) (hg : mv_get K pc = some (.anewarray x, a)) (h1 : 0 ≤ n) (h2 : n ≤ 100000) (h3 : a = (k : Int)) (h4 : k = 14 ∨ k = 15) (hp : pc + 3 = pc') (k0 : mv_Ev sc y pc' ls ((2, (c1 : Int)) :: r) (c1 + 1, c2 + 1, c3 + n.toNat) (mv_uo h c1 (k, n, fun _ => -1)) Q) : mv_Ev sc y pc ls ((0, n) :: r) (c1, c2, c3) h Q := by
  subst hp; subst h3
  exact e_step hK hg rfl (by simp only [mv_step]; rw [if_pos ⟨h1, h2, by omega⟩]; rfl) k0
end NEW
theorem uo_e {h : mv_H} {a b : Int} {o : mv_O} (hb : b = a) : mv_uo h a o b = o := if_pos hb
theorem LtA.mo {m m' : Nat} {h : mv_H} {W : wt} (hL : LtA m h W) (hm : m ≤ m') : LtA m' h W := by
  obtain ⟨⟨a1, a2, a3, a4, a5, a6, a7, a8, a9, a10, a11⟩, hs⟩ := hL
  exact ⟨⟨a1, a2, a3, a4, a5, a6, a7, by omega, gR_mo a9 hm, fun j j0 j1 => gR_mo (a10 j j0 j1) hm, fun s hs e => gR_mo (a11 s hs e) hm⟩, hs⟩
theorem LtA.old {m : Nat} {h h' : mv_H} {W : wt} (hL : LtA m h W) (hf : ∀ b : Int, b < m → h' b = h b) : LtA m h' W := by
  have hm := hL.1.2.2.2.2.2.2.2.1
  exact ⟨hL.1.kq (fun b hb => hf b (by unfold csb at hb; omega)), hL.2.kq (fun b hb => hf b (by omega))⟩
