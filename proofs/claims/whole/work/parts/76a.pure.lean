/-! the reference's face: commands (written by wip/whole/m76.py) -/
theorem sz_B {A : lg} (h : sz A) : gB A := by
  obtain ⟨h1, h2, h3⟩ := h
  exact ⟨h2, h3, fun i i0 i1 => by
    obtain ⟨a1, a2, a3, -⟩ := h1.2.2.1 i i0 i1
    exact ⟨a1, by omega, a3⟩, fun t t0 t1 => (h1.2.2.2 t t0 t1).1⟩
theorem gag_m {A : lg} {i : Int} (h : sz A) : (¬ (0 ≤ i ∧ i < gn A) → (gag A i).1 = false) ∧ (0 ≤ i → i < gn A → 24 ≤ gn A → (gag A i).1 = false) ∧ (0 ≤ i → i < gn A → gn A < 24 → gag A i = (true, gpu A (gL A i) (gnw A (gL A i))) ∧ sz (gpu A (gL A i) (gnw A (gL A i)))) := by
  unfold gag
  refine ⟨fun hn => by rw [if_neg hn], fun i0 i1 hn => ?_, fun i0 i1 hn => ?_⟩
  · rw [if_pos ⟨i0, i1⟩, gl_L i0 i1, if_pos (show gtf A (gL A i) = -9999 from if_pos hn)]
  · have hf := gff_own h.1 i0 i1
    have hne : gtf A (gL A i) ≠ -9999 := fun e => gtf_c.1 e ⟨hn, Or.inr hf⟩
    rw [if_pos ⟨i0, i1⟩, gl_L i0 i1, if_neg hne, gput_w hne h.2.2]
    have := sz_put h (gLok h.1 i0 i1) hne
    rw [gput_w hne h.2.2] at this
    exact ⟨rfl, this⟩
theorem gop_m {A : lg} {t p : Int} (h : sz A) : (¬ (0 ≤ t ∧ t < gT A ∧ 0 ≤ p ∧ p < xn (gs A t)) → (gop A t p).1 = false) ∧ (gk A t p ≠ 0 → (gop A t p).1 = false) ∧ (gk A t p = 0 → gop A t p = (true, gopen A t p)) := by
  have h2 : gk A t p ≠ 0 → (gop A t p).1 = false := fun hk => by unfold gop; rw [if_neg hk]
  refine ⟨fun hn => h2 (fun hk => hn ?_), h2, fun hk => if_pos hk⟩
  cases hg : go A t p with
  | true => rw [go_k hg] at hk; omega
  | false =>
    rw [go_n hg] at hk
    by_cases hp : 0 ≤ p ∧ p < xn (gs A t)
    · by_cases ht : 0 ≤ t ∧ t < gT A
      · exact ⟨ht.1, ht.2, hp.1, hp.2⟩
      · have e : gs A t = x0 := if_neg ht
        have e2 : xn x0 = 0 := rfl
        rw [e, e2] at hp; omega
    · rw [xk_o hp] at hk; omega
theorem sz_gcm {A : lg} {k o : Int} (h : sz A) (ho : 0 ≤ o) (hq : (gcm A k o).1 = true) : sz (gcm A k o).2 := by
  unfold gcm at hq ⊢
  have e4 : 0 ≤ o.tdiv 10 := Int.tdiv_nonneg ho (by decide)
  split
  · rename_i hk
    rw [if_pos hk] at hq
    split
    · rename_i h0
      rw [if_pos h0] at hq
      by_cases hi : 0 ≤ o.tdiv 10 ∧ o.tdiv 10 < gn A
      · by_cases h24 : gn A < 24
        · obtain ⟨e, e2⟩ := (gag_m h).2.2 hi.1 hi.2 h24
          rw [e]; exact e2
        · rw [(gag_m h).2.1 hi.1 hi.2 (by omega)] at hq; cases hq
      · rw [(gag_m h).1 hi] at hq; cases hq
    · exact h
  · rename_i hk1
    rw [if_neg hk1] at hq
    split
    · rename_i hk
      rw [if_pos hk] at hq
      split
      · rename_i h0
        rw [if_pos h0] at hq
        unfold grm at hq ⊢
        by_cases hi : 0 ≤ o.tdiv 10 ∧ o.tdiv 10 < gn A
        · rw [if_pos hi]; exact sz_drop h hi.1 hi.2
        · rw [if_neg hi]; exact h
      · exact h
    · rename_i hk2
      rw [if_neg hk2] at hq
      split
      · rename_i hk
        split
        · exact sz_gle h
        · exact h
      · rename_i hk3
        rw [if_neg hk3] at hq
        split
        · rename_i hk
          split
          · exact sz_gall 12 h
          · exact h
        · rename_i hk4
          rw [if_neg hk4] at hq
          split
          · rename_i hk
            rw [if_pos hk] at hq
            split
            · rename_i h0
              rw [if_pos h0] at hq
              by_cases hr : 0 ≤ (o.tdiv 10).tdiv 10 ∧ (o.tdiv 10).tdiv 10 < gT A ∧ 0 ≤ (o.tdiv 10).tmod 10 ∧ (o.tdiv 10).tmod 10 < xn (gs A ((o.tdiv 10).tdiv 10))
              · by_cases hg : gk A ((o.tdiv 10).tdiv 10) ((o.tdiv 10).tmod 10) = 0
                · rw [(gop_m h).2.2 hg]; exact sz_open h hr.1 hr.2.1 hr.2.2.1 hr.2.2.2 hg
                · rw [(gop_m h).2.1 hg] at hq; cases hq
              · rw [(gop_m h).1 hr] at hq; cases hq
            · exact h
          · rename_i hk5
            rw [if_neg hk5] at hq
            split
            · split
              · exact sz_gtk h
              · exact h
            · split
              · exact h
              · split
                · exact h
                · split <;> exact h
theorem sg4_e {s : Int} (h : 0 ≤ s) : ∀ k : Nat, sg4 s k = s / 10000 ^ k
  | 0 => by show s = s / 10000 ^ 0; rw [Int.pow_zero, Int.ediv_one]
  | k + 1 => by
    have h1 : 0 ≤ sg4 s k := by rw [sg4_e h k]; exact Int.ediv_nonneg h (Int.le_of_lt (Int.pow_pos (by decide)))
    show (sg4 s k).tdiv 10000 = _
    rw [Int.tdiv_eq_ediv_of_nonneg h1, sg4_e h k, Int.pow_succ, Int.ediv_ediv_of_nonneg (Int.pow_nonneg (by decide))]
theorem p4_b : ∀ k : Nat, k ≤ 4 → (1 : Int) ≤ 10000 ^ k ∧ (10000 : Int) ^ k ≤ 10000000000000000
  | 0, _ => by decide
  | 1, _ => by decide
  | 2, _ => by decide
  | 3, _ => by decide
  | 4, _ => by decide
  | k + 5, h => by omega
theorem sg4_z {s : Int} (h : 0 ≤ s) {k : Nat} (hk : k ≤ 4) : sg4 s k = 0 ↔ s ≤ 10000 ^ k - 1 := by
  rw [sg4_e h k]
  have hp := p4_b k hk
  generalize (10000 : Int) ^ k = w at hp
  constructor
  · intro e
    have := Int.lt_ediv_add_one_mul_self s (show 0 < w by omega)
    rw [e] at this
    omega
  · intro e
    exact Int.ediv_eq_zero_of_lt h (by omega)
