/-! walking on the small machine: 'mv_Ev': it comes to an end where Q holds -/
def mv_Ev (sc : Int × (Int → Int)) (y pc : Nat) (ls st : List mv_V) (c : mv_C) (h : mv_H) (Q : mv_R → mv_C → mv_H → Prop) : Prop := ∃ (N : Nat) (r : mv_R) (c' : mv_C) (h' : mv_H), mv_run sc N y pc ls st c h = some (r, c', h') ∧ Q r c' h'
/-- a method's contract: called with these values in this heap, Q holds at its end -/
def mv_Cl (sc : Int × (Int → Int)) (y : Nat) (vs : List mv_V) (c : mv_C) (h : mv_H) (Q : mv_R → mv_C → mv_H → Prop) : Prop := mv_Ev sc y 0 (mv_ent vs (mv_m y).2.2.1) [] c h Q
theorem mv_fuel1 {sc : Int × (Int → Int)} : ∀ (N y pc : Nat) (ls st : List mv_V) (c : mv_C) (h : mv_H) (q : mv_R × mv_C × mv_H), mv_run sc N y pc ls st c h = some q → mv_run sc (N + 1) y pc ls st c h = some q := by
  intro N
  induction N with
  | zero => intro y pc ls st c h q hr; cases hr
  | succ N ih =>
    intro y pc ls st c h q hr
    rw [mv_run] at hr
    rw [mv_run]
    split at hr
    · cases hr
    · split at hr
      · split at hr
        · exact ih _ _ _ _ _ _ _ hr
        · cases hr
      · split at hr
        · rename_i hcnd
          rw [if_pos hcnd]
          split at hr
          · rename_i hs9
            rw [ih _ _ _ _ _ _ _ hs9]
            dsimp only
            split at hr
            · rename_i h4
              rw [if_pos h4]
              split at hr
              · rename_i h5
                rw [if_pos h5]
                split at hr
                · exact ih _ _ _ _ _ _ _ hr
                · exact hr
              · cases hr
            · rename_i h4
              rw [if_neg h4]
              split at hr
              · rename_i h3
                rw [if_pos h3]
                exact ih _ _ _ _ _ _ _ hr
              · rename_i h3
                rw [if_neg h3]
                exact ih _ _ _ _ _ _ _ hr
          · cases hr
        · cases hr
      · exact hr
      · exact hr
theorem mv_fuel {sc : Int × (Int → Int)} {N M y pc : Nat} {ls st : List mv_V} {c : mv_C} {h : mv_H} {q : mv_R × mv_C × mv_H} (hr : mv_run sc N y pc ls st c h = some q) (hM : N ≤ M) : mv_run sc M y pc ls st c h = some q := by
  obtain ⟨k, rfl⟩ := Nat.exists_eq_add_of_le hM
  induction k with
  | zero => exact hr
  | succ k ih => exact mv_fuel1 _ _ _ _ _ _ _ _ (ih (Nat.le_add_right _ _))
section EV
variable {sc : Int × (Int → Int)} {y pc pc' : Nat} {K : mv_K} {i : Instr} {a : Int} {ls st ls' st' r : List mv_V} {c c' : mv_C} {h h' : mv_H} {Q : mv_R → mv_C → mv_H → Prop}
theorem mv_Ev.mono {Q' : mv_R → mv_C → mv_H → Prop} (hE : mv_Ev sc y pc ls st c h Q) (hq : ∀ r c' h', Q r c' h' → Q' r c' h') : mv_Ev sc y pc ls st c h Q' := by
  obtain ⟨N, r, c', h', h1, h2⟩ := hE
  exact ⟨N, r, c', h', h1, hq _ _ _ h2⟩
theorem e_step (hK : (mv_m y).1 = K) (hg : mv_get K pc = some (i, a)) (hk : mv_ki i a = 0) (hs : mv_step sc pc i a ls st c h = some (pc', ls', st', c', h')) (k : mv_Ev sc y pc' ls' st' c' h' Q) : mv_Ev sc y pc ls st c h Q := by
  obtain ⟨N, r, c2, h2, h3, h4⟩ := k
  subst hK
  refine ⟨N + 1, r, c2, h2, ?_, h4⟩
  rw [mv_run, hg]
  try dsimp only
  rw [hk]
  try dsimp only
  rw [hs]
  exact h3
theorem e_ret {v : mv_R} (hK : (mv_m y).1 = K) (hg : mv_get K pc = some (i, a)) (hk : mv_ki i a = 2) (hs : mv_ret (mv_m y).2.2.2.1 i st = some v) (k : Q v c h) : mv_Ev sc y pc ls st c h Q := by
  subst hK
  refine ⟨1, v, c, h, ?_, k⟩
  rw [mv_run, hg]
  try dsimp only
  rw [hk]
  try dsimp only
  rw [hs]
  rfl
theorem e_thr {E : Int} (hK : (mv_m y).1 = K) (hg : mv_get K pc = some (i, a)) (hk : mv_ki i a = 3) (hh : (mv_m y).2.2.2.2.2 = []) (hE : -1 - a = E) (k : Q (4, E) (c.1, c.2.1 + 1, c.2.2 + 6) h) : mv_Ev sc y pc ls [] c h Q := by
  subst hK
  subst hE
  refine ⟨1, (4, -1 - a), _, h, ?_, k⟩
  rw [mv_run, hg]
  try dsimp only
  rw [hk]
  try dsimp only
  exact if_pos ⟨hh, rfl⟩
/-- a call: its values off the stack, its contract, what follows -/
theorem e_call {z : Nat} {vs : List mv_V} {Q1 : mv_R → mv_C → mv_H → Prop} (hK : (mv_m y).1 = K) (hg : mv_get K pc = some (i, a)) (hk : mv_ki i a = 1) (hz : mv_z a = z) (hst : st = vs.reverse ++ r) (hn : (mv_m z).2.1 = vs.length) (hr : r.length ≤ 4) (hrc : mv_rc i z vs h = true) (hml : (mv_ents vs).length ≤ (mv_m z).2.2.1)
    (hC : mv_Cl sc z vs c h Q1) (hQ : ∀ (v : mv_R) (c1 : mv_C) (h1 : mv_H), Q1 v c1 h1 → v.1 ≠ 4 ∧ mv_Ev sc y (pc + 3) ls (if v.1 = 3 then r else v :: r) c1 h1 Q) : mv_Ev sc y pc ls st c h Q := by
  subst hK
  subst hz
  obtain ⟨N, v, c1, h1, hr1, hq1⟩ := hC
  obtain ⟨h4, M, v2, c2, h2, hr2, hq2⟩ := hQ v c1 h1 hq1
  refine ⟨max N M + 1, v2, c2, h2, ?_, hq2⟩
  have htk : st.take (mv_m (mv_z a)).2.1 = vs.reverse := by rw [hst, hn, ← List.length_reverse, List.take_left]
  have hdr : st.drop (mv_m (mv_z a)).2.1 = r := by rw [hst, hn, ← List.length_reverse, List.drop_left]
  have hln : st.length = vs.length + r.length := by rw [hst, List.length_append, List.length_reverse]
  rw [mv_run, hg]
  try dsimp only
  rw [hk]
  try dsimp only
  rw [htk, hdr, List.reverse_reverse, if_pos ⟨by omega, by omega, hrc, hml⟩, mv_fuel hr1 (Nat.le_max_left N M)]
  try dsimp only
  rw [if_neg h4]
  by_cases h3 : v.1 = 3
  · rw [if_pos h3] at hr2 ⊢
    exact mv_fuel hr2 (Nat.le_max_right N M)
  · rw [if_neg h3] at hr2 ⊢
    exact mv_fuel hr2 (Nat.le_max_right N M)
/-- a call that throws, not caught here -/
theorem e_callX {z : Nat} {vs : List mv_V} {Q1 : mv_R → mv_C → mv_H → Prop} (hK : (mv_m y).1 = K) (hg : mv_get K pc = some (i, a)) (hk : mv_ki i a = 1) (hz : mv_z a = z) (hst : st = vs.reverse ++ r) (hn : (mv_m z).2.1 = vs.length) (hr : r.length ≤ 4) (hrc : mv_rc i z vs h = true) (hml : (mv_ents vs).length ≤ (mv_m z).2.2.1)
    (ha : a < 1000) (hs : mv_nsp i = true) (hhz : (mv_m z).2.2.2.2.2 = []) (hhy : (mv_m y).2.2.2.2.2 = [])
    (hC : mv_Cl sc z vs c h Q1) (hQ : ∀ (v : mv_R) (c1 : mv_C) (h1 : mv_H), Q1 v c1 h1 → (v.1 ≠ 4 ∧ mv_Ev sc y (pc + 3) ls (if v.1 = 3 then r else v :: r) c1 h1 Q) ∨ (v.1 = 4 ∧ 0 ≤ v.2 ∧ v.2 < 3 ∧ Q v c1 h1)) : mv_Ev sc y pc ls st c h Q := by
  have hC0 := hC
  obtain ⟨N, v, c1, h1, hr1, hq1⟩ := hC
  rcases hQ v c1 h1 hq1 with ⟨h4, M, v2, c2, h2, hr2, hq2⟩ | ⟨h4, h5, h6, h7⟩
  · exact e_call (Q1 := fun v' c' h' => v' = v ∧ c' = c1 ∧ h' = h1) hK hg hk hz hst hn hr hrc hml ⟨N, v, c1, h1, hr1, rfl, rfl, rfl⟩ (fun v' c' h' hq => by obtain ⟨rfl, rfl, rfl⟩ := hq; exact ⟨h4, M, v2, c2, h2, hr2, hq2⟩)
  · subst hK
    subst hz
    refine ⟨N + 1, v, c1, h1, ?_, h7⟩
    have htk : st.take (mv_m (mv_z a)).2.1 = vs.reverse := by rw [hst, hn, ← List.length_reverse, List.take_left]
    have hln : st.length = vs.length + r.length := by rw [hst, List.length_append, List.length_reverse]
    rw [mv_run, hg]
    try dsimp only
    rw [hk]
    try dsimp only
    rw [htk, List.reverse_reverse, if_pos ⟨by omega, by omega, hrc, hml⟩, hr1]
    try dsimp only
    rw [if_pos h4, if_pos ⟨ha, hs, hhz, h5, h6⟩, hhy]
    rfl
/-- a call with handlers behind it -/
theorem e_callH {z : Nat} {vs : List mv_V} {Q1 : mv_R → mv_C → mv_H → Prop} (hK : (mv_m y).1 = K) (hg : mv_get K pc = some (i, a)) (hk : mv_ki i a = 1) (hz : mv_z a = z) (hst : st = vs.reverse ++ r) (hn : (mv_m z).2.1 = vs.length) (hr : r.length ≤ 4) (hrc : mv_rc i z vs h = true) (hml : (mv_ents vs).length ≤ (mv_m z).2.2.1)
    (ha : a < 1000) (hs : mv_nsp i = true) (hhz : (mv_m z).2.2.2.2.2 = [])
    (hC : mv_Cl sc z vs c h Q1) (hQ : ∀ (v : mv_R) (c1 : mv_C) (h1 : mv_H), Q1 v c1 h1 → (v.1 ≠ 4 ∧ mv_Ev sc y (pc + 3) ls (if v.1 = 3 then r else v :: r) c1 h1 Q) ∨ (v.1 = 4 ∧ 0 ≤ v.2 ∧ v.2 < 3 ∧ ∃ hp, mv_hnd (mv_m y).2.2.2.2.2 pc v.2 = some hp ∧ mv_Ev sc y hp ls [(3, 0)] c1 h1 Q)) : mv_Ev sc y pc ls st c h Q := by
  obtain ⟨N, v, c1, h1, hr1, hq1⟩ := hC
  rcases hQ v c1 h1 hq1 with ⟨h4, M, v2, c2, h2, hr2, hq2⟩ | ⟨h4, h5, h6, hp, h7, M, v2, c2, h2, hr2, hq2⟩
  · exact e_call (Q1 := fun v' c' h' => v' = v ∧ c' = c1 ∧ h' = h1) hK hg hk hz hst hn hr hrc hml ⟨N, v, c1, h1, hr1, rfl, rfl, rfl⟩ (fun v' c' h' hq => by obtain ⟨rfl, rfl, rfl⟩ := hq; exact ⟨h4, M, v2, c2, h2, hr2, hq2⟩)
  · subst hK
    subst hz
    refine ⟨max N M + 1, v2, c2, h2, ?_, hq2⟩
    have htk : st.take (mv_m (mv_z a)).2.1 = vs.reverse := by rw [hst, hn, ← List.length_reverse, List.take_left]
    have hln : st.length = vs.length + r.length := by rw [hst, List.length_append, List.length_reverse]
    rw [mv_run, hg]
    try dsimp only
    rw [hk]
    try dsimp only
    rw [htk, List.reverse_reverse, if_pos ⟨by omega, by omega, hrc, hml⟩, mv_fuel hr1 (Nat.le_max_left N M)]
    try dsimp only
    rw [if_pos h4, if_pos ⟨ha, hs, hhz, h5, h6⟩, h7]
    exact mv_fuel hr2 (Nat.le_max_right N M)
-- instructions with conditions
theorem e_getI {x : Nat} {ob k : Int} {ci : Nat} (hK : (mv_m y).1 = K) (hg : mv_get K pc = some (.getfield x, a)) (h1 : (h ob).1 = ci) (h2 : (a / 100).toNat = ci) (h3 : a % 100 = k) (h4 : k.toNat < mv_fn ci) (h5 : mv_ft ci k.toNat = 0) (hp : pc + 3 = pc') (k0 : mv_Ev sc y pc' ls ((0, (h ob).2.2 k) :: r) c h Q) : mv_Ev sc y pc ls ((2, ob) :: r) c h Q := by
  subst hp; subst h3; subst h2
  exact e_step hK hg rfl (by simp only [mv_step]; rw [if_pos ⟨h1, h4⟩, if_pos h5]) k0
theorem e_getR {x : Nat} {ob k : Int} {ci : Nat} (hK : (mv_m y).1 = K) (hg : mv_get K pc = some (.getfield x, a)) (h1 : (h ob).1 = ci) (h2 : (a / 100).toNat = ci) (h3 : a % 100 = k) (h4 : k.toNat < mv_fn ci) (h5 : ¬ mv_ft ci k.toNat = 0) (h6 : 0 ≤ (h ob).2.2 k) (hp : pc + 3 = pc') (k0 : mv_Ev sc y pc' ls ((2, (h ob).2.2 k) :: r) c h Q) : mv_Ev sc y pc ls ((2, ob) :: r) c h Q := by
  subst hp; subst h3; subst h2
  exact e_step hK hg rfl (by simp only [mv_step]; rw [if_pos ⟨h1, h4⟩, if_neg h5, if_pos h6]) k0
theorem e_put {x t : Nat} {ob k v : Int} {ci : Nat} (hK : (mv_m y).1 = K) (hg : mv_get K pc = some (.putfield x, a)) (h1 : (h ob).1 = ci) (h2 : (a / 100).toNat = ci) (h3 : a % 100 = k) (h4 : k.toNat < mv_fn ci) (h5 : t = mv_ft ci k.toNat) (hp : pc + 3 = pc') (k0 : mv_Ev sc y pc' ls r c (mv_uo h ob ((h ob).1, (h ob).2.1, mv_up (h ob).2.2 k v)) Q) : mv_Ev sc y pc ls ((t, v) :: (2, ob) :: r) c h Q := by
  subst hp; subst h3; subst h2
  exact e_step hK hg rfl (by simp only [mv_step]; rw [if_pos ⟨h1, h4, h5⟩]) k0
theorem e_alen {ob : Int} (hK : (mv_m y).1 = K) (hg : mv_get K pc = some (.arraylength, a)) (h1 : 10 ≤ (h ob).1) (hp : pc + 1 = pc') (k0 : mv_Ev sc y pc' ls ((0, (h ob).2.1) :: r) c h Q) : mv_Ev sc y pc ls ((2, ob) :: r) c h Q := by
  subst hp
  exact e_step hK hg rfl (by simp only [mv_step]; rw [if_pos h1]) k0
theorem e_iald {ob j : Int} (hK : (mv_m y).1 = K) (hg : mv_get K pc = some (.iaload, a)) (h1 : (h ob).1 = 10) (h2 : 0 ≤ j) (h3 : j < (h ob).2.1) (hp : pc + 1 = pc') (k0 : mv_Ev sc y pc' ls ((0, (h ob).2.2 j) :: r) c h Q) : mv_Ev sc y pc ls ((0, j) :: (2, ob) :: r) c h Q := by
  subst hp
  exact e_step hK hg rfl (by simp only [mv_step]; rw [if_pos ⟨h1, h2, h3⟩]) k0
theorem e_cald {ob j : Int} (hK : (mv_m y).1 = K) (hg : mv_get K pc = some (.caload, a)) (h1 : (h ob).1 = 11) (h2 : 0 ≤ j) (h3 : j < (h ob).2.1) (hp : pc + 1 = pc') (k0 : mv_Ev sc y pc' ls ((0, (h ob).2.2 j) :: r) c h Q) : mv_Ev sc y pc ls ((0, j) :: (2, ob) :: r) c h Q := by
  subst hp
  exact e_step hK hg rfl (by simp only [mv_step]; rw [if_pos ⟨h1, h2, h3⟩]) k0
theorem e_bald {ob j : Int} (hK : (mv_m y).1 = K) (hg : mv_get K pc = some (.baload, a)) (h1 : (h ob).1 = 12) (h2 : 0 ≤ j) (h3 : j < (h ob).2.1) (hp : pc + 1 = pc') (k0 : mv_Ev sc y pc' ls ((0, (h ob).2.2 j) :: r) c h Q) : mv_Ev sc y pc ls ((0, j) :: (2, ob) :: r) c h Q := by
  subst hp
  exact e_step hK hg rfl (by simp only [mv_step]; rw [if_pos ⟨h1, h2, h3⟩]) k0
theorem e_lald {ob j : Int} (hK : (mv_m y).1 = K) (hg : mv_get K pc = some (.laload, a)) (h1 : (h ob).1 = 13) (h2 : 0 ≤ j) (h3 : j < (h ob).2.1) (hp : pc + 1 = pc') (k0 : mv_Ev sc y pc' ls ((1, (h ob).2.2 j) :: r) c h Q) : mv_Ev sc y pc ls ((0, j) :: (2, ob) :: r) c h Q := by
  subst hp
  exact e_step hK hg rfl (by simp only [mv_step]; rw [if_pos ⟨h1, h2, h3⟩]) k0
theorem e_aald {ob j : Int} (hK : (mv_m y).1 = K) (hg : mv_get K pc = some (.aaload, a)) (h1 : (h ob).1 = 14 ∨ (h ob).1 = 15) (h2 : 0 ≤ j) (h3 : j < (h ob).2.1) (h4 : 0 ≤ (h ob).2.2 j) (hp : pc + 1 = pc') (k0 : mv_Ev sc y pc' ls ((2, (h ob).2.2 j) :: r) c h Q) : mv_Ev sc y pc ls ((0, j) :: (2, ob) :: r) c h Q := by
  subst hp
  exact e_step hK hg rfl (by simp only [mv_step]; rw [if_pos ⟨h1, h2, h3, h4⟩]) k0
theorem e_iast {ob j x : Int} (hK : (mv_m y).1 = K) (hg : mv_get K pc = some (.iastore, a)) (h1 : (h ob).1 = 10) (h2 : 0 ≤ j) (h3 : j < (h ob).2.1) (hp : pc + 1 = pc') (k0 : mv_Ev sc y pc' ls r c (mv_uo h ob ((h ob).1, (h ob).2.1, mv_up (h ob).2.2 j x)) Q) : mv_Ev sc y pc ls ((0, x) :: (0, j) :: (2, ob) :: r) c h Q := by
  subst hp
  exact e_step hK hg rfl (by simp only [mv_step]; rw [if_pos ⟨h1, h2, h3⟩]) k0
theorem e_cast {ob j x : Int} (hK : (mv_m y).1 = K) (hg : mv_get K pc = some (.castore, a)) (h1 : (h ob).1 = 11) (h2 : 0 ≤ j) (h3 : j < (h ob).2.1) (h4 : 0 ≤ x) (h5 : x < 65536) (hp : pc + 1 = pc') (k0 : mv_Ev sc y pc' ls r c (mv_uo h ob ((h ob).1, (h ob).2.1, mv_up (h ob).2.2 j x)) Q) : mv_Ev sc y pc ls ((0, x) :: (0, j) :: (2, ob) :: r) c h Q := by
  subst hp
  exact e_step hK hg rfl (by simp only [mv_step]; rw [if_pos ⟨h1, h2, h3, h4, h5⟩]) k0
theorem e_bast {ob j x : Int} (hK : (mv_m y).1 = K) (hg : mv_get K pc = some (.bastore, a)) (h1 : (h ob).1 = 12) (h2 : 0 ≤ j) (h3 : j < (h ob).2.1) (h4 : x = 0 ∨ x = 1) (hp : pc + 1 = pc') (k0 : mv_Ev sc y pc' ls r c (mv_uo h ob ((h ob).1, (h ob).2.1, mv_up (h ob).2.2 j x)) Q) : mv_Ev sc y pc ls ((0, x) :: (0, j) :: (2, ob) :: r) c h Q := by
  subst hp
  exact e_step hK hg rfl (by simp only [mv_step]; rw [if_pos ⟨h1, h2, h3, h4⟩]) k0
theorem e_last {ob j x : Int} (hK : (mv_m y).1 = K) (hg : mv_get K pc = some (.lastore, a)) (h1 : (h ob).1 = 13) (h2 : 0 ≤ j) (h3 : j < (h ob).2.1) (hp : pc + 1 = pc') (k0 : mv_Ev sc y pc' ls r c (mv_uo h ob ((h ob).1, (h ob).2.1, mv_up (h ob).2.2 j x)) Q) : mv_Ev sc y pc ls ((1, x) :: (0, j) :: (2, ob) :: r) c h Q := by
  subst hp
  exact e_step hK hg rfl (by simp only [mv_step]; rw [if_pos ⟨h1, h2, h3⟩]) k0
theorem e_aast {ob j x : Int} (hK : (mv_m y).1 = K) (hg : mv_get K pc = some (.aastore, a)) (h1 : ((h ob).1 = 14 ∧ (h x).1 = 1) ∨ ((h ob).1 = 15 ∧ (h x).1 = 2)) (h2 : 0 ≤ j) (h3 : j < (h ob).2.1) (hp : pc + 1 = pc') (k0 : mv_Ev sc y pc' ls r c (mv_uo h ob ((h ob).1, (h ob).2.1, mv_up (h ob).2.2 j x)) Q) : mv_Ev sc y pc ls ((2, x) :: (0, j) :: (2, ob) :: r) c h Q := by
  subst hp
  exact e_step hK hg rfl (by simp only [mv_step]; rw [if_pos ⟨h1, h2, h3⟩]) k0
theorem e_idiv {x z : Int} (hK : (mv_m y).1 = K) (hg : mv_get K pc = some (.idiv, a)) (h1 : mv_i x) (h2 : 0 < z) (h3 : mv_i z) (hp : pc + 1 = pc') (k0 : mv_Ev sc y pc' ls ((0, x.tdiv z) :: r) c h Q) : mv_Ev sc y pc ls ((0, z) :: (0, x) :: r) c h Q := by
  subst hp
  exact e_step hK hg rfl (by simp only [mv_step, mv_b2]; rw [if_pos ⟨h1, h2, h3⟩]) k0
theorem e_irem {x z : Int} (hK : (mv_m y).1 = K) (hg : mv_get K pc = some (.irem, a)) (h1 : mv_i x) (h2 : 0 < z) (h3 : mv_i z) (hp : pc + 1 = pc') (k0 : mv_Ev sc y pc' ls ((0, x.tmod z) :: r) c h Q) : mv_Ev sc y pc ls ((0, z) :: (0, x) :: r) c h Q := by
  subst hp
  exact e_step hK hg rfl (by simp only [mv_step, mv_b2]; rw [if_pos ⟨h1, h2, h3⟩]) k0
theorem e_ldiv {x z : Int} (hK : (mv_m y).1 = K) (hg : mv_get K pc = some (.ldiv, a)) (h1 : mv_l x) (h2 : 0 < z) (h3 : mv_l z) (hp : pc + 1 = pc') (k0 : mv_Ev sc y pc' ls ((1, x.tdiv z) :: r) c h Q) : mv_Ev sc y pc ls ((1, z) :: (1, x) :: r) c h Q := by
  subst hp
  exact e_step hK hg rfl (by simp only [mv_step, mv_j2]; rw [if_pos ⟨h1, h2, h3⟩]) k0
theorem e_lrem {x z : Int} (hK : (mv_m y).1 = K) (hg : mv_get K pc = some (.lrem, a)) (h1 : mv_l x) (h2 : 0 < z) (h3 : mv_l z) (hp : pc + 1 = pc') (k0 : mv_Ev sc y pc' ls ((1, x.tmod z) :: r) c h Q) : mv_Ev sc y pc ls ((1, z) :: (1, x) :: r) c h Q := by
  subst hp
  exact e_step hK hg rfl (by simp only [mv_step, mv_j2]; rw [if_pos ⟨h1, h2, h3⟩]) k0
theorem e_i2l {x : Int} (hK : (mv_m y).1 = K) (hg : mv_get K pc = some (.i2l, a)) (h1 : mv_i x) (hp : pc + 1 = pc') (k0 : mv_Ev sc y pc' ls ((1, x) :: r) c h Q) : mv_Ev sc y pc ls ((0, x) :: r) c h Q := by
  subst hp
  exact e_step hK hg rfl (by simp only [mv_step]; rw [if_pos h1]) k0
theorem e_i2c {x : Int} (hK : (mv_m y).1 = K) (hg : mv_get K pc = some (.i2c, a)) (h1 : 0 ≤ x) (h2 : x < 65536) (hp : pc + 1 = pc') (k0 : mv_Ev sc y pc' ls ((0, x) :: r) c h Q) : mv_Ev sc y pc ls ((0, x) :: r) c h Q := by
  subst hp
  exact e_step hK hg rfl (by simp only [mv_step]; rw [if_pos ⟨h1, h2⟩]) k0
theorem e_lcmp {x z : Int} (hK : (mv_m y).1 = K) (hg : mv_get K pc = some (.lcmp, a)) (h1 : mv_l x) (h2 : mv_l z) (hp : pc + 1 = pc') (k0 : mv_Ev sc y pc' ls ((0, mv_cL x z) :: r) c h Q) : mv_Ev sc y pc ls ((1, z) :: (1, x) :: r) c h Q := by
  subst hp
  exact e_step hK hg rfl (by simp only [mv_step, mv_j2]; rw [if_pos ⟨h1, h2⟩]) k0
theorem e_iand {x z : Int} (hK : (mv_m y).1 = K) (hg : mv_get K pc = some (.iand, a)) (h1 : z = 1 ∨ z = 31) (hp : pc + 1 = pc') (k0 : mv_Ev sc y pc' ls ((0, x % (z + 1)) :: r) c h Q) : mv_Ev sc y pc ls ((0, z) :: (0, x) :: r) c h Q := by
  subst hp
  exact e_step hK hg rfl (by simp only [mv_step, mv_b2]; rw [if_pos h1]) k0
theorem e_ishl {x z : Int} (hK : (mv_m y).1 = K) (hg : mv_get K pc = some (.ishl, a)) (h1 : 0 ≤ z) (h2 : z < 32) (hp : pc + 1 = pc') (k0 : mv_Ev sc y pc' ls ((0, x * 2 ^ z.toNat) :: r) c h Q) : mv_Ev sc y pc ls ((0, z) :: (0, x) :: r) c h Q := by
  subst hp
  exact e_step hK hg rfl (by simp only [mv_step, mv_b2]; rw [if_pos ⟨h1, h2⟩]) k0
theorem e_ishr {x z : Int} (hK : (mv_m y).1 = K) (hg : mv_get K pc = some (.ishr, a)) (h0 : mv_i x) (h1 : 0 ≤ z) (h2 : z < 32) (hp : pc + 1 = pc') (k0 : mv_Ev sc y pc' ls ((0, x / 2 ^ z.toNat) :: r) c h Q) : mv_Ev sc y pc ls ((0, z) :: (0, x) :: r) c h Q := by
  subst hp
  exact e_step hK hg rfl (by simp only [mv_step, mv_b2]; rw [if_pos ⟨h0, h1, h2⟩]) k0
theorem e_ior {x z : Int} (hK : (mv_m y).1 = K) (hg : mv_get K pc = some (.ior, a)) (h0 : 0 ≤ x) (h1 : 0 ≤ z) (h2 : mv_i x) (h3 : mv_i z) (hp : pc + 1 = pc') (k0 : mv_Ev sc y pc' ls ((0, ((x.toNat ||| z.toNat : Nat) : Int)) :: r) c h Q) : mv_Ev sc y pc ls ((0, z) :: (0, x) :: r) c h Q := by
  subst hp
  exact e_step hK hg rfl (by simp only [mv_step, mv_b2]; rw [if_pos ⟨h0, h1, h2, h3⟩]) k0
theorem e_icmp {kk : ClassFile.Cond} {off x z : Int} {t : Nat} (hK : (mv_m y).1 = K) (hg : mv_get K pc = some (.if_icmp kk off, a)) (h1 : mv_i x) (h2 : mv_i z) (ht : (pc : Int) + off = t) (hp : pc + 3 = pc') (k1 : mv_cmp kk x z = true → mv_Ev sc y t ls r c h Q) (k2 : mv_cmp kk x z = false → mv_Ev sc y pc' ls r c h Q) : mv_Ev sc y pc ls ((0, z) :: (0, x) :: r) c h Q := by
  subst hp
  have h0 : mv_i x ∧ mv_i z ∧ 0 ≤ (pc : Int) + off := ⟨h1, h2, by omega⟩
  have ht' : ((pc : Int) + off).toNat = t := by omega
  cases hc : mv_cmp kk x z with
  | true => exact e_step hK hg rfl (by simp only [mv_step, mv_b2]; rw [if_pos h0, if_pos hc, ht']) (k1 hc)
  | false => exact e_step hK hg rfl (by simp only [mv_step, mv_b2]; rw [if_pos h0, if_neg (by rw [hc]; decide)]) (k2 hc)
theorem e_if {kk : ClassFile.Cond} {off x : Int} {t : Nat} (hK : (mv_m y).1 = K) (hg : mv_get K pc = some (.ifCond kk off, a)) (h1 : mv_i x) (ht : (pc : Int) + off = t) (hp : pc + 3 = pc') (k1 : mv_cmp kk x 0 = true → mv_Ev sc y t ls r c h Q) (k2 : mv_cmp kk x 0 = false → mv_Ev sc y pc' ls r c h Q) : mv_Ev sc y pc ls ((0, x) :: r) c h Q := by
  subst hp
  have h0 : mv_i x ∧ 0 ≤ (pc : Int) + off := ⟨h1, by omega⟩
  have ht' : ((pc : Int) + off).toNat = t := by omega
  cases hc : mv_cmp kk x 0 with
  | true => exact e_step hK hg rfl (by simp only [mv_step]; rw [if_pos h0, if_pos hc, ht']) (k1 hc)
  | false => exact e_step hK hg rfl (by simp only [mv_step]; rw [if_pos h0, if_neg (by rw [hc]; decide)]) (k2 hc)
theorem e_goto {off : Int} {t : Nat} (hK : (mv_m y).1 = K) (hg : mv_get K pc = some (.goto off, a)) (ht : (pc : Int) + off = t) (k1 : mv_Ev sc y t ls st c h Q) : mv_Ev sc y pc ls st c h Q :=
  e_step hK hg rfl (by simp only [mv_step, mv_jmp]; rw [if_pos (by omega), show ((pc : Int) + off).toNat = t by omega]) k1
end EV
section CMP
variable {x z : Int}
theorem cq_eq : (mv_cmp .eq x z = true ↔ x = z) ∧ (mv_cmp .eq x z = false ↔ ¬ x = z) := ⟨decide_eq_true_iff, decide_eq_false_iff_not⟩
theorem cq_ne : (mv_cmp .ne x z = true ↔ ¬ x = z) ∧ (mv_cmp .ne x z = false ↔ x = z) := ⟨decide_eq_true_iff, by show decide _ = false ↔ _; rw [decide_eq_false_iff_not]; exact Decidable.not_not⟩
theorem cq_lt : (mv_cmp .lt x z = true ↔ x < z) ∧ (mv_cmp .lt x z = false ↔ z ≤ x) := ⟨decide_eq_true_iff, by show decide _ = false ↔ _; rw [decide_eq_false_iff_not]; exact Int.not_lt⟩
theorem cq_ge : (mv_cmp .ge x z = true ↔ z ≤ x) ∧ (mv_cmp .ge x z = false ↔ x < z) := ⟨decide_eq_true_iff, by show decide _ = false ↔ _; rw [decide_eq_false_iff_not]; exact Int.not_le⟩
theorem cq_gt : (mv_cmp .gt x z = true ↔ z < x) ∧ (mv_cmp .gt x z = false ↔ x ≤ z) := ⟨decide_eq_true_iff, by show decide _ = false ↔ _; rw [decide_eq_false_iff_not]; exact Int.not_lt⟩
theorem cq_le : (mv_cmp .le x z = true ↔ x ≤ z) ∧ (mv_cmp .le x z = false ↔ z < x) := ⟨decide_eq_true_iff, by show decide _ = false ↔ _; rw [decide_eq_false_iff_not]; exact Int.not_le⟩
end CMP
