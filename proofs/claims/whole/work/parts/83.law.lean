/-! the law on the small machine (written by wip/whole/m83.py) -/
section GP
variable {sc : Int × (Int → Int)} {c : mv_C} {h : mv_H}
theorem cgr_r (c : mv_C) : cgr c c := ⟨Nat.le_refl _, by omega, by omega⟩
set_option maxRecDepth 10000 in
theorem law_loop (O P : Nat) (hs : ∀ j : Int, mv_i (sc.2 j)) (hb : 0 ≤ sc.1 ∧ sc.1 ≤ 2048) : ∀ (m : Nat) (i : Int) (n o s : Nat) (W : wt) (v : mvt) (hh : mv_H) (a5 a6 : mv_V), ((0 ≤ i ∧ i ≤ sc.1) ∧ sc.1 ≤ i + 4 * m + 3 ∧ o + 10 * m ≤ O ∧ s + 200 * m ≤ P ∧ LI W v n hh) → mv_Ev sc 205 23 [(4, 0), (2, 0), (2, 264), (2, 276), (0, i), a5, a6] [] (n, o, s) (mH hh v) (fun r c' _ => r = (0, 1) ∧ c'.2.1 ≤ O ∧ c'.2.2 ≤ P) := by
  intro m
  induction m with
  | zero =>
    intro i n o s W v hh a5 a6 ⟨⟨i0, i1⟩, hi, hO, hP, hI⟩
    have hK : (mv_m 205).1 = kc_Law_law := rfl
    refine e_step (pc' := 25) hK rfl rfl rfl ?_
    refine e_step (pc' := 26) hK rfl rfl rfl ?_
    refine e_sal (pc' := 27) hK rfl rfl ?_
    refine e_step (pc' := 28) hK rfl rfl rfl ?_
    refine e_step (pc' := 29) hK rfl rfl rfl ?_
    refine e_icmp (t := 1537) (pc' := 32) hK rfl (by first | omega | exact hs _) (by first | omega | exact hs _) (by decide) rfl (fun hb29 => ?_) (fun hb29 => ?_)
    · replace hb29 := cq_gt.1.mp hb29
      refine e_step (pc' := 1538) hK rfl rfl rfl ?_
      refine e_ret hK rfl rfl (by first | rfl | (simp only [mv_ret]; rw [if_pos]; exact Or.inr ⟨rfl, by omega⟩) | (simp only [mv_ret]; rw [if_pos]; exact Or.inr ⟨rfl, by unfold mv_bo; split <;> first | exact Or.inl rfl | exact Or.inr rfl⟩)) ?_
      exact ⟨rfl, by show o ≤ O; omega, by show s ≤ P; omega⟩
    · replace hb29 := cq_gt.2.mp hb29
      exfalso; first | omega | exact absurd trivial (by assumption) | (first | omega | exact hs _)
  | succ m ih =>
    intro i n o s W v hh a5 a6 ⟨⟨i0, i1⟩, hi, hO, hP, hI⟩
    have hK : (mv_m 205).1 = kc_Law_law := rfl
    refine e_step (pc' := 25) hK rfl rfl rfl ?_
    refine e_step (pc' := 26) hK rfl rfl rfl ?_
    refine e_sal (pc' := 27) hK rfl rfl ?_
    refine e_step (pc' := 28) hK rfl rfl rfl ?_
    refine e_step (pc' := 29) hK rfl rfl rfl ?_
    refine e_icmp (t := 1537) (pc' := 32) hK rfl (by first | omega | exact hs _) (by first | omega | exact hs _) (by decide) rfl (fun hb29 => ?_) (fun hb29 => ?_)
    · replace hb29 := cq_gt.1.mp hb29
      refine e_step (pc' := 1538) hK rfl rfl rfl ?_
      refine e_ret hK rfl rfl (by first | rfl | (simp only [mv_ret]; rw [if_pos]; exact Or.inr ⟨rfl, by omega⟩) | (simp only [mv_ret]; rw [if_pos]; exact Or.inr ⟨rfl, by unfold mv_bo; split <;> first | exact Or.inl rfl | exact Or.inr rfl⟩)) ?_
      exact ⟨rfl, by show o ≤ O; omega, by show s ≤ P; omega⟩
    · replace hb29 := cq_gt.2.mp hb29
      have K0 : ∀ (W1 : wt) (v1 : mvt) (g1 : mv_H) (c1 : mv_C) (b5 b6 : mv_V), LI W1 v1 c1.1 g1 → cgr (n, o, s) c1 → mv_Ev sc 205 1531 [(4, 0), (2, 0), (2, 264), (2, 276), (0, i), b5, b6] [] c1 (mH g1 v1) (fun r c' _ => r = (0, 1) ∧ c'.2.1 ≤ O ∧ c'.2.2 ≤ P) := by
        rintro W1 v1 g1 ⟨n1, o1, s1⟩ b5 b6 hI1 ⟨_, y1, y2⟩
        have y1 : o1 ≤ o + 10 := y1
        have y2 : s1 ≤ s + 200 := y2
        refine e_step (pc' := 1534) hK rfl rfl rfl ?_
        try simp only [List.set_cons_zero, List.set_cons_succ]
        refine e_goto (t := 23) hK rfl (by decide) ?_
        exact ih (i + 4) n1 o1 s1 W1 v1 g1 b5 b6 ⟨⟨by omega, by omega⟩, by omega, by omega, by omega, hI1⟩
      refine e_step (pc' := 33) hK rfl rfl rfl ?_
      refine e_step (pc' := 35) hK rfl rfl rfl ?_
      refine e_sil (pc' := 36) hK rfl (by first | omega | exact hs _) (by first | omega | exact hs _) rfl ?_
      refine e_step (pc' := 38) hK rfl rfl rfl ?_
      refine e_iand (pc' := 39) hK rfl (by first | omega | exact hs _) rfl ?_
      refine e_tsw (td := 1531) hK rfl (by first | omega | exact hs _) rfl (by decide) (by decide) (fun hb39 => ?_) (fun j hj hb39 => ?_)
      · skip
        exact K0 W v hh (n, o, s) a5 a6 hI (cgr_r (n, o, s))
      · skip
        rcases j with _ | j
        · show mv_Ev _ _ 160 _ _ _ _ _
          exact r_append hI hs i i0 (by omega) a5 a6 K0
        · skip
          rcases j with _ | j
          · show mv_Ev _ _ 216 _ _ _ _ _
            exact r_clear hI hs i i0 (by omega) a5 a6 K0
          · skip
            rcases j with _ | j
            · show mv_Ev _ _ 229 _ _ _ _ _
              exact r_error hI hs i i0 (by omega) a5 a6 K0
            · skip
              rcases j with _ | j
              · show mv_Ev _ _ 242 _ _ _ _ _
                exact r_about hI hs i i0 (by omega) a5 a6 K0
              · skip
                rcases j with _ | j
                · show mv_Ev _ _ 298 _ _ _ _ _
                  exact r_line hI hs i i0 (by omega) a5 a6 K0
                · skip
                  rcases j with _ | j
                  · show mv_Ev _ _ 366 _ _ _ _ _
                    exact r_charAt hI hs i i0 (by omega) a5 a6 K0
                  · skip
                    rcases j with _ | j
                    · show mv_Ev _ _ 434 _ _ _ _ _
                      exact r_value hI hs i i0 (by omega) a5 a6 K0
                    · skip
                      rcases j with _ | j
                      · show mv_Ev _ _ 502 _ _ _ _ _
                        exact r_template hI hs i i0 (by omega) a5 a6 K0
                      · skip
                        rcases j with _ | j
                        · show mv_Ev _ _ 570 _ _ _ _ _
                          exact r_piece hI hs i i0 (by omega) a5 a6 K0
                        · skip
                          rcases j with _ | j
                          · show mv_Ev _ _ 650 _ _ _ _ _
                            exact r_rises hI hs i i0 (by omega) a5 a6 K0
                          · skip
                            rcases j with _ | j
                            · show mv_Ev _ _ 718 _ _ _ _ _
                              exact r_take hI hs i i0 (by omega) a5 a6 K0
                            · skip
                              rcases j with _ | j
                              · show mv_Ev _ _ 762 _ _ _ _ _
                                exact r_again hI hs i i0 (by omega) a5 a6 K0
                              · skip
                                rcases j with _ | j
                                · show mv_Ev _ _ 818 _ _ _ _ _
                                  exact r_remove hI hs i i0 (by omega) a5 a6 K0
                                · skip
                                  rcases j with _ | j
                                  · show mv_Ev _ _ 874 _ _ _ _ _
                                    exact r_learn hI hs i i0 (by omega) a5 a6 K0
                                  · skip
                                    rcases j with _ | j
                                    · show mv_Ev _ _ 887 _ _ _ _ _
                                      exact r_learnAll hI hs i i0 (by omega) a5 a6 K0
                                    · skip
                                      rcases j with _ | j
                                      · show mv_Ev _ _ 900 _ _ _ _ _
                                        exact r_open hI hs i i0 (by omega) a5 a6 K0
                                      · skip
                                        rcases j with _ | j
                                        · show mv_Ev _ _ 968 _ _ _ _ _
                                          exact r_forget hI hs i i0 (by omega) a5 a6 K0
                                        · skip
                                          rcases j with _ | j
                                          · show mv_Ev _ _ 1012 _ _ _ _ _
                                            exact r_undo hI hs i i0 (by omega) a5 a6 K0
                                          · skip
                                            rcases j with _ | j
                                            · show mv_Ev _ _ 1056 _ _ _ _ _
                                              exact r_which hI hs i i0 (by omega) a5 a6 K0
                                            · skip
                                              rcases j with _ | j
                                              · show mv_Ev _ _ 1069 _ _ _ _ _
                                                exact r_cost hI hs i i0 (by omega) a5 a6 K0
                                              · skip
                                                rcases j with _ | j
                                                · show mv_Ev _ _ 1082 _ _ _ _ _
                                                  exact r_saves hI hs i i0 (by omega) a5 a6 K0
                                                · skip
                                                  rcases j with _ | j
                                                  · show mv_Ev _ _ 1095 _ _ _ _ _
                                                    exact r_next hI hs i i0 (by omega) a5 a6 K0
                                                  · skip
                                                    rcases j with _ | j
                                                    · show mv_Ev _ _ 1163 _ _ _ _ _
                                                      exact r_withv hI hs i i0 (by omega) a5 a6 K0
                                                    · skip
                                                      rcases j with _ | j
                                                      · show mv_Ev _ _ 1219 _ _ _ _ _
                                                        exact r_run hI hs i i0 (by omega) a5 a6 K0
                                                      · skip
                                                        rcases j with _ | j
                                                        · show mv_Ev _ _ 1319 _ _ _ _ _
                                                          exact r_sim hI hs i i0 (by omega) a5 a6 K0
                                                        · skip
                                                          rcases j with _ | j
                                                          · show mv_Ev _ _ 1419 _ _ _ _ _
                                                            exact r_save hI hs i i0 (by omega) a5 a6 K0
                                                          · skip
                                                            rcases j with _ | j
                                                            · show mv_Ev _ _ 1475 _ _ _ _ _
                                                              exact r_restore hI hs i i0 (by omega) a5 a6 K0
                                                            · skip
                                                              exact absurd hj (by show ¬ _ < 27; omega)
end GP
