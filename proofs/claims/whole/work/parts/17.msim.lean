theorem mv_covers {q : Nat × Nat × Nat × Nat} {pc : Nat} : covers (⟨q.1, q.2.1, q.2.2.1, q.2.2.2⟩ : ExceptionTableEntry) pc = (decide (q.1 ≤ pc) && decide (pc < q.2.1)) := rfl
/-- **the real machine follows the small one** -/
theorem mv_sim (l : Launch) (hst : l.stackTraces = false) (D : va_G) (bs base L : Nat) (xs : Nat → Int32) (hLs : L < 2147483648) : ∀ N, mv_Sim l D bs base L xs N := by
  intro N
  induction N with
  | zero => intro y pc ls st c h r c' h' hr; cases hr
  | succ N IH =>
    intro y pc ls st c h r c' h' hr p e R s m args below meth cd H locs cells slots mc ms ι lsr str ι0 n0 X hfr hlo rel hι hn hc hs hmc hms
    rw [mv_run] at hr
    split at hr
    · cases hr
    · rename_i i a hg
      have hy := mv_y206 hg
      split at hr
      · split at hr
        · rename_i pc1 ls1 st1 c1 h1 hs1
          have m1 := mv_step_mono hs1
          have m2 := mv_run_mono _ _ _ _ _ _ _ _ _ _ hr
          exact mv_stepW hLs X hg hs1 rel (by omega) (by omega) (fun H1 locs1 ι1 lsr1 str1 rel1 hι1 => IH _ _ _ _ _ _ _ _ _ hr p e R s m args below meth cd H1 locs1 _ _ mc ms ι1 lsr1 str1 ι0 n0 X hfr hlo rel1 (fun j h0 hj => (hι1 j h0 (by omega)).trans (hι j h0 hj)) (by omega) (by omega) (by omega) hmc hms)
        · cases hr
      · rename_i hki
        split at hr
        · rename_i hcnd
          obtain ⟨hc1, hc2, hc3, hc4⟩ := hcnd
          split at hr
          · rename_i r1 c1 h1 hrun
            have m1 := mv_run_mono _ _ _ _ _ _ _ _ _ _ hrun
            have m0 : c1.2.1 ≤ c'.2.1 ∧ c1.2.2 ≤ c'.2.2 := by
              split at hr
              · split at hr
                · split at hr
                  · have m2 := mv_run_mono _ _ _ _ _ _ _ _ _ _ hr
                    omega
                  · split at hr
                    · cases hr; exact ⟨Nat.le_refl _, Nat.le_refl _⟩
                    · cases hr
                · cases hr
              · split at hr
                · have m2 := mv_run_mono _ _ _ _ _ _ _ _ _ _ hr
                  omega
                · have m2 := mv_run_mono _ _ _ _ _ _ _ _ _ _ hr
                  omega
            refine mv_call IH X hg hki hc1 hc2 hc3 hc4 hrun rel hfr hlo (by omega) (by omega) (fun h4 H1 locs1 ι1 str1 rel1 hι1 => ?_) (fun h4 => ?_)
            · rw [if_neg h4] at hr
              by_cases h3 : r1.1 = 3
              · rw [if_pos h3] at hr rel1
                exact IH _ _ _ _ _ _ _ _ _ hr p e R s m args below meth cd H1 locs1 _ _ mc ms ι1 lsr str1 ι0 n0 X hfr hlo rel1 (fun j h0 hj => (hι1 j h0 (by omega)).trans (hι j h0 hj)) (by omega) (by omega) (by omega) hmc hms
              · rw [if_neg h3] at hr rel1
                exact IH _ _ _ _ _ _ _ _ _ hr p e R s m args below meth cd H1 locs1 _ _ mc ms ι1 lsr str1 ι0 n0 X hfr hlo rel1 (fun j h0 hj => (hι1 j h0 (by omega)).trans (hι j h0 hj)) (by omega) (by omega) (by omega) hmc hms
            · rw [if_pos h4] at hr
              split at hr
              · rename_i hcx
                obtain ⟨hx1, hx2, hx3, hx4, hx5⟩ := hcx
                refine ⟨⟨hx1, hx2, hx3⟩, fun H1 locs1 ι1 ws1 ce x rest w1 w2 w3 w4 w5 w6 w7 w8 w9 w10 => ?_⟩
                obtain ⟨hx, hb, hml, hret, hlk, hown, hnm, hxt, hst0, hF⟩ := id X
                have hhd := mv_all mv_hd0 hy
                simp only [Bool.and_eq_true] at hhd
                have hhe := of_decide_eq_true hhd.1.1
                split at hr
                · rename_i hp hhp
                  rw [hhe] at hhp
                  obtain ⟨pre, z, suf, e1, e2, e3, e4, e5, rfl⟩ := mv_hnd_spec _ _ _ _ hhp
                  have hnil : (mv_hh y).isEmpty = false := by rw [e1]; cases pre <;> rfl
                  have how : mv_ow y = "LineTemplatesLaw" := by
                    rcases (Bool.or_eq_true _ _).mp hhd.2 with h9 | h9
                    · exact of_decide_eq_true h9
                    · rw [hnil] at h9; cases h9
                  have hct : ∀ q ∈ mv_hh y, q.2.2.2 = 13 ∨ q.2.2.2 = 15 ∨ q.2.2.2 = 24 := fun q hq => by
                    have h9 := List.all_eq_true.mp hhd.1.2 q hq
                    rcases (Bool.or_eq_true _ _).mp h9 with h9 | h9
                    · rcases (Bool.or_eq_true _ _).mp h9 with h9 | h9
                      · exact Or.inl (of_decide_eq_true h9)
                      · exact Or.inr (Or.inl (of_decide_eq_true h9))
                    · exact Or.inr (Or.inr (of_decide_eq_true h9))
                  have hlink : ∀ q ∈ mv_hh y, (Cond.classLink (mv_ow y) q.2.2.2 (mv_xn (mv_ce q.2.2.2))).before args s = true := fun q hq => by
                    rw [how]
                    rcases hct q hq with h9 | h9 | h9 <;> rw [h9]
                    · exact hF.1 _ mv_cw0.1 _
                    · exact hF.1 _ mv_cw0.2.1 _
                    · exact hF.1 _ mv_cw0.2.2.1 _
                  have hce : ∀ q ∈ mv_hh y, mv_ce q.2.2.2 < 3 := fun q hq => by
                    rcases hct q hq with h9 | h9 | h9 <;> rw [h9] <;> decide
                  have hn0 : ∀ q ∈ mv_hh y, q.2.2.2 ≠ 0 := fun q hq => by
                    rcases hct q hq with h9 | h9 | h9 <;> rw [h9] <;> decide
                  have hz : z ∈ mv_hh y := by rw [e1]; exact List.mem_append_right _ List.mem_cons_self
                  have hrn : r1.2.toNat = mv_ce z.2.2.2 := by omega
                  rw [hrn] at w10
                  have hcast : (Cond.castable (mv_xn (mv_ce z.2.2.2)) (mv_xn (mv_ce z.2.2.2))).before args s = true := by
                    have h8 := hce z hz
                    match hq : mv_ce z.2.2.2, h8 with
                    | 0, _ => exact va_Nw.use rfl (hF.2.1 _ mv_cw0.2.2.2.1 rfl)
                    | 1, _ => exact va_Nw.use rfl (hF.2.1 _ mv_cw0.2.2.2.2.1 rfl)
                    | 2, _ => exact va_Nw.use rfl (hF.2.1 _ mv_cw0.2.2.2.2.2 rfl)
                  refine vx_catch hown (tableOf pre) ⟨z.1, z.2.1, z.2.2.1, z.2.2.2⟩ (tableOf suf) (by rw [hxt, e1]; unfold tableOf; rw [List.map_append, List.map_cons]) (fun w hw9 => ?_) (by rw [mv_covers, Bool.and_eq_true]; exact ⟨decide_eq_true e3, decide_eq_true e4⟩) (hn0 z hz) (hlink z hz) hcast w8 w9 w10 ?_
                  · obtain ⟨q, hq, rfl⟩ := List.mem_map.mp hw9
                    have hqm : q ∈ mv_hh y := by rw [e1]; exact List.mem_append_left _ hq
                    rcases e2 q hq with h9 | h9
                    · left
                      rw [mv_covers, Bool.and_eq_false_iff]
                      by_cases h8 : q.1 ≤ pc
                      · right; exact decide_eq_false (fun h7 => h9 ⟨h8, h7⟩)
                      · left; exact decide_eq_false h8
                    · right
                      exact ⟨hn0 q hqm, _, hlink q hqm, hF.2.2.2.2.2.2.1 _ _ (hce z hz) (hce q hqm) (fun h8 => h9 (by rw [← h8]; exact e5))⟩
                  · exact IH _ _ _ _ _ _ _ _ _ hr p e R s m args below meth cd H1 locs1 _ _ mc ms ι1 lsr [.ref x] ι0 n0 X hfr hlo ⟨ws1, w1, w2, w3, w4, w7, ⟨⟨x, rfl⟩, trivial⟩⟩ (fun j h0 hj => (w5 j h0 (by omega)).trans (hι j h0 hj)) (by omega) (by omega) (by omega) hmc hms
                · split at hr
                  · rename_i hno
                    cases hr
                    have hnil := mv_hh0 hy hno
                    refine vx_out (by rw [hxt, hnil]; intro x9 hx9; cases hx9) hlk w8 w9 w10 (fun t ht hvm => ⟨h4, rfl, ι1, ws1, fun j h0 hj => (w5 j h0 (by omega)).trans (hι j h0 hj), by omega, by rw [ht]; exact w1, w2, mv_w_mv hvm w4, w3.F ht⟩) w3.2.2 (by omega) (by omega)
                  · cases hr
              · cases hr
          · cases hr
        · cases hr
      · rename_i hki
        obtain ⟨l1, h1, h2⟩ := Option.map_eq_some_iff.mp hr
        cases h2
        exact mv_endW X hg h1 rel hι hn (by omega) (by omega)
      · rename_i k1 k2 k3
        split at hr
        · rename_i hcnd
          cases hr
          obtain ⟨k, rfl, ha⟩ := mv_ki3 k1 k2 k3
          obtain ⟨h8, rfl⟩ := hcnd
          have hc : cells + (c.2.1 + 1 - c.2.1) ≤ mc := hc
          have hs : slots + (c.2.2 + 6 - c.2.2) ≤ ms := hs
          exact mv_thrW X hg ha h8 rel hfr hlo hι hn (by omega) (by omega) hmc hms
        · cases hr
