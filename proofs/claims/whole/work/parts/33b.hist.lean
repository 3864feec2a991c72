/-! the history (written by wip/whole/m33.py) -/
section HI
variable {sc : Int × (Int → Int)} {c : mv_C} {h : mv_H}
theorem c_copyW {s o : Int} {B : lg} (hw : StW h s) (ho : StA h o B) (hd : s + 5 ≤ o ∨ o + 5 ≤ s) : mv_Cl sc q_State_copyFrom [(2, s), (2, o)] c h (mv_Wr s B c h) := by
  have hC := c_copy0 (sc := sc) (c := c) hw ho hd (hv h s)
  rw [← sH_id] at hC
  obtain ⟨N, r, c1, h1, h2, h3, h4, w, h5, h6⟩ := hC
  subst h5
  exact ⟨N, r, c1, _, h2, h3, h4, StA.mk hw h6, sH_fr⟩
theorem c_takeW {s o : Int} {B : lg} (hw : StW h s) (ho : StA h o B) (hd : s + 5 ≤ o ∨ o + 5 ≤ s) : mv_Cl sc q_State_takeLinesOf [(2, s), (2, o)] c h (fun r c' h' => r = (0, mv_bo (gtk B (gn B)).1) ∧ c' = c ∧ StA h' s (gtk B (gn B)).2 ∧ mv_frm h h' s) := by
  have h1 := c_takeL0 (sc := sc) (c := c) (v := hv h s) hw ho hd
  rw [← sH_id] at h1
  exact h1
set_option maxRecDepth 10000 in
theorem c_floorMod (a : Int) (h0 : 0 ≤ a) (h1 : a ≤ 1000) : mv_Cl sc q_Math_floorMod [(0, a), (0, 14)] c h (mv_Rd (0, a % 14) c h) := by
  show mv_Ev sc 0 0 [(0, a), (0, 14), (5, 0)] [] c h _
  have hK : (mv_m 0).1 = kc_Math_floorMod := rfl
  refine e_step (pc' := 1) hK rfl rfl rfl ?_
  refine e_step (pc' := 2) hK rfl rfl rfl ?_
  refine e_irem (pc' := 3) hK rfl (by first | omega | (have q := xo_b h0 h1; omega)) (by first | omega | (have q := xo_b h0 h1; omega)) (by first | omega | (have q := xo_b h0 h1; omega)) rfl ?_
  refine e_step (pc' := 4) hK rfl rfl rfl ?_
  try simp only [List.set_cons_zero, List.set_cons_succ]
  refine e_step (pc' := 5) hK rfl rfl rfl ?_
  refine e_step (pc' := 6) hK rfl rfl rfl ?_
  refine e_ixor (pc' := 7) hK rfl (by first | omega | (have q := xo_b h0 h1; omega)) (by first | omega | (have q := xo_b h0 h1; omega)) (by first | omega | (have q := xo_b h0 h1; omega)) (by first | omega | (have q := xo_b h0 h1; omega)) rfl ?_
  refine e_if (t := 18) (pc' := 10) hK rfl (by first | omega | (have q := xo_b h0 h1; omega)) (by decide) rfl (fun hb7 => ?_) (fun hb7 => ?_)
  · replace hb7 := cq_ge.1.mp hb7
    refine e_step (pc' := 19) hK rfl rfl rfl ?_
    refine e_ret hK rfl rfl rfl ?_
    refine ⟨?_, rfl, rfl⟩
    congr 1
    exact Int.tmod_eq_emod_of_nonneg h0
  · replace hb7 := cq_ge.2.mp hb7
    exfalso; first | omega | exact absurd trivial (by assumption) | (first | omega | (have q := xo_b h0 h1; omega))
set_option maxRecDepth 10000 in
theorem c_place (t0 : (h 180).1 = 3) (o d : Int) (f1 : (h 180).2.2 1 = o) (ho : 0 ≤ o) (ho2 : o < 14) (hd : 0 ≤ d) (hd2 : d ≤ 14) : mv_Cl sc q_Hist_placeBehindOldest [(2, 180), (0, d)] c h (mv_Rd (0, (o + d) % 14) c h) := by
  show mv_Ev sc 36 0 [(2, 180), (0, d)] [] c h _
  have hK : (mv_m 36).1 = kc_Hist_placeBehindOldest := rfl
  refine e_step (pc' := 1) hK rfl rfl rfl ?_
  refine e_getI (ci := 3) (k := 1) (pc' := 4) hK rfl (by simp only [t0, f1]) rfl rfl (by decide) (by decide) rfl ?_
  try simp only [t0, f1]
  refine e_step (pc' := 5) hK rfl rfl rfl ?_
  refine e_step (pc' := 6) hK rfl rfl rfl ?_
  refine e_step (pc' := 8) hK rfl rfl rfl ?_
  refine e_cRS2 (z := 0) (pc' := 11) hK rfl rfl rfl (Nat.le_of_ble_eq_true rfl) (Nat.le_of_ble_eq_true rfl) (c_floorMod (o + d) (by omega) (by omega)) (by decide) rfl ?_
  try simp only [t0, f1]
  refine e_ret hK rfl rfl rfl ?_
  exact ⟨rfl, rfl, rfl⟩
set_option maxRecDepth 10000 in
theorem c_remember {n : Nat} {g : Int → lg} {A : lg} (hh : HsA h n g) (hA : StA h 165 A) : mv_Cl sc q_Hist_remember [(2, 180), (2, 165)] c h (fun r c' h' => r = (3, 0) ∧ c' = c ∧ HsA h' (hs_n n) (hs_g n g A) ∧ ∀ b : Int, (b < 180 ∨ 251 < b) → h' b = h b) := by
  obtain ⟨⟨t0, f0, t1, l1, hst⟩, hn, f2, o, ho, ho2, f1, hg⟩ := hh
  have st1 := fun (k : Int) (h0 : 0 ≤ k) (h1 : k < 14) => (hst k h0 h1).1
  have tgA := hA.1.2.2.1
  have stt := fun (k : Int) (h0 : 0 ≤ k) (h1 : k < 14) => (hst k h0 h1).2.2.2.1
  show mv_Ev sc 35 0 [(2, 180), (2, 165)] [] c h _
  have hK : (mv_m 35).1 = kc_Hist_remember := rfl
  refine e_step (pc' := 1) hK rfl rfl rfl ?_
  refine e_getI (ci := 3) (k := 2) (pc' := 4) hK rfl (by simp (disch := omega) only [uo_s, uo_n, up_s, up_n, t0, f0, t1, l1, f1, f2, st1, stt]) rfl rfl (by decide) (by decide) rfl ?_
  try simp (disch := omega) only [uo_s, uo_n, up_s, up_n, t0, f0, t1, l1, f1, f2, st1, stt]
  refine e_step (pc' := 6) hK rfl rfl rfl ?_
  refine e_icmp (t := 28) (pc' := 9) hK rfl (by omega) (by omega) (by decide) rfl (fun hb6 => ?_) (fun hb6 => ?_)
  · replace hb6 := cq_ne.1.mp hb6
    refine e_step (pc' := 29) hK rfl rfl rfl ?_
    refine e_getR (ci := 3) (k := 0) (pc' := 32) hK rfl (by simp (disch := omega) only [uo_s, uo_n, up_s, up_n, t0, f0, t1, l1, f1, f2, st1, stt]) rfl rfl (by decide) (by decide) (by (try simp (disch := omega) only [uo_s, uo_n, up_s, up_n, t0, f0, t1, l1, f1, f2, st1, stt]); omega) rfl ?_
    try simp (disch := omega) only [uo_s, uo_n, up_s, up_n, t0, f0, t1, l1, f1, f2, st1, stt]
    refine e_step (pc' := 33) hK rfl rfl rfl ?_
    refine e_step (pc' := 34) hK rfl rfl rfl ?_
    refine e_getI (ci := 3) (k := 2) (pc' := 37) hK rfl (by simp (disch := omega) only [uo_s, uo_n, up_s, up_n, t0, f0, t1, l1, f1, f2, st1, stt]) rfl rfl (by decide) (by decide) rfl ?_
    try simp (disch := omega) only [uo_s, uo_n, up_s, up_n, t0, f0, t1, l1, f1, f2, st1, stt]
    refine e_cRV2 (z := 36) (pc' := 40) hK rfl rfl (by first | (simp (disch := omega) only [uo_s, uo_n, up_s, up_n, t0, f0, t1, l1, f1, f2, st1, stt]; rfl) | (show _ = 2; assumption) | (show _ = 1; assumption) | (show _ = 0; assumption) | (show _ = 3; assumption) | (show _ = 4; assumption)) rfl (Nat.le_of_ble_eq_true rfl) (Nat.le_of_ble_eq_true rfl) (c_place (by simp (disch := omega) only [uo_s, t0]) (o) (n : Int) (by simp (disch := omega) only [uo_s, uo_n, up_s, up_n, f1]) (by omega) (by omega) (by omega) (by omega)) (by decide) rfl ?_
    try simp (disch := omega) only [uo_s, uo_n, up_s, up_n, t0, f0, t1, l1, f1, f2, st1, stt]
    refine e_aald (pc' := 41) hK rfl (by simp (disch := omega) only [uo_s, uo_n, up_s, up_n, t0, f0, t1, l1, f1, f2, st1, stt]; decide) (by omega) (by (try simp (disch := omega) only [uo_s, uo_n, up_s, up_n, t0, f0, t1, l1, f1, f2, st1, stt]); omega) (by (try simp (disch := omega) only [uo_s, uo_n, up_s, up_n, t0, f0, t1, l1, f1, f2, st1, stt]); omega) rfl ?_
    try simp (disch := omega) only [uo_s, uo_n, up_s, up_n, t0, f0, t1, l1, f1, f2, st1, stt]
    refine e_step (pc' := 42) hK rfl rfl rfl ?_
    refine e_cQV2 (z := 16) hK rfl rfl (by first | (simp (disch := omega) only [uo_s, uo_n, up_s, up_n, t0, f0, t1, l1, f1, f2, st1, stt]; rfl) | (show _ = 2; assumption) | (show _ = 1; assumption) | (show _ = 0; assumption) | (show _ = 3; assumption) | (show _ = 4; assumption)) rfl (Nat.le_of_ble_eq_true rfl) (Nat.le_of_ble_eq_true rfl) (c_copyW (s := 182 + 5 * ((o + (n : Int)) % 14)) (o := 165) ((hst _ (by omega) (by omega)).2.kp (fun b hb => by first | rfl | simp (disch := omega) only [uo_n])) (hA.kp (fun b hb => by first | rfl | simp (disch := omega) only [uo_n])) (by omega)) ?_
    rintro _ _ h2 ⟨rfl, rfl, hs2, hf2⟩
    refine ⟨by decide, ?_⟩
    rw [if_pos rfl]
    have g180 := hf2 180 (by omega)
    try simp (disch := omega) only [uo_s, uo_n, up_s, up_n] at g180
    have tg2 : (h2 180).1 = 3 := by simp (disch := omega) only [g180, t0]
    have tf2 : (h2 180).2.2 2 = (n : Int) := by simp (disch := omega) only [g180, up_s, up_n, f2]
    have tf1 : (h2 180).2.2 1 = o := by simp (disch := omega) only [g180, up_s, up_n, f1]
    have tf0 : (h2 180).2.2 0 = 181 := by simp (disch := omega) only [g180, up_s, up_n, f0]
    have q181 : h2 181 = h 181 := by { rw [hf2 181 (by omega)]; try simp (disch := omega) only [uo_n] }
    show mv_Ev _ _ 45 _ _ _ _ _
    refine e_step (pc' := 46) hK rfl rfl rfl ?_
    refine e_step (pc' := 47) hK rfl rfl rfl ?_
    refine e_getI (ci := 3) (k := 2) (pc' := 50) hK rfl (by simp (disch := omega) only [uo_s, uo_n, up_s, up_n, t0, f0, t1, l1, f1, f2, st1, stt, tg2, tf2]) rfl rfl (by decide) (by decide) rfl ?_
    try simp (disch := omega) only [uo_s, uo_n, up_s, up_n, t0, f0, t1, l1, f1, f2, st1, stt, tg2, tf2]
    refine e_step (pc' := 51) hK rfl rfl rfl ?_
    refine e_step (pc' := 52) hK rfl rfl rfl ?_
    refine e_put (ci := 3) (k := 2) (pc' := 55) hK rfl (by simp (disch := omega) only [uo_s, uo_n, up_s, up_n, t0, f0, t1, l1, f1, f2, st1, stt, tg2, tf2]) rfl rfl (by decide) rfl rfl ?_
    refine e_ret hK rfl rfl rfl ?_
    have ek : ∀ k : Int, 0 ≤ k → k < 14 → k ≠ (o + (n : Int)) % 14 → ∀ b : Int, (b ≤ 164 ∨ 277 ≤ b ∨ (182 + 5 * k ≤ b ∧ b ≤ 182 + 5 * k + 4)) → (mv_uo h2 180 ((h2 180).1, (h2 180).2.1, mv_up (h2 180).2.2 2 ((n : Int) + 1))) b = h b := fun k h0 h1 h2' b hb => by { rw [uo_n (by omega), hf2 b (by omega)]; try simp (disch := omega) only [uo_n] }
    have ew : StW (mv_uo h2 180 ((h2 180).1, (h2 180).2.1, mv_up (h2 180).2.2 2 ((n : Int) + 1))) (182 + 5 * ((o + (n : Int)) % 14)) := hs2.1.kp (fun b hb => uo_n (by omega))
    have es : StA (mv_uo h2 180 ((h2 180).1, (h2 180).2.1, mv_up (h2 180).2.2 2 ((n : Int) + 1))) (182 + 5 * ((o + (n : Int)) % 14)) A := hs2.kp (fun b hb => uo_n (by omega))
    refine ⟨rfl, rfl, ⟨⟨?_, ?_, ?_, ?_, fun k h0 h1 => ⟨?_, ?_⟩⟩, ?_, ?_, o, by omega, by omega, ?_, fun j h0 h1 => ?_⟩, (fun b hb => by { rw [uo_n (by omega), hf2 b (by omega)]; try simp (disch := omega) only [uo_n] })⟩
    · rw [uo_s]; exact tg2
    · rw [uo_s]; dsimp only; rw [up_n (show (0 : Int) ≠ 2 by decide)]; exact tf0
    · rw [uo_n (by decide), q181]; exact t1
    · rw [uo_n (by decide), q181]; exact l1
    · rw [uo_n (by decide), q181]; exact st1 k h0 h1
    · by_cases hk : k = (o + (n : Int)) % 14
      · rw [hk]; exact ew
      · exact (hst k h0 h1).2.kp (ek k h0 h1 hk)
    · unfold hs_n; split <;> omega
    · rw [uo_s]; dsimp only; rw [up_s]; unfold hs_n; split <;> omega
    · rw [uo_s]; dsimp only; rw [up_n (show (1 : Int) ≠ 2 by decide)]; exact tf1
    · unfold hs_n at h1
      rw [if_neg (by omega)] at h1
      unfold hs_g
      rw [if_neg (by omega)]
      by_cases hj : j = n
      · show StA _ _ (if j = (n : Int) then A else g j)
        rw [if_pos hj, hj]; exact es
      · show StA _ _ (if j = (n : Int) then A else g j)
        rw [if_neg hj]
        exact (hg j (by omega) (by omega)).kp (ek _ (by omega) (by omega) (by omega))
  · replace hb6 := cq_ne.2.mp hb6
    refine e_step (pc' := 10) hK rfl rfl rfl ?_
    refine e_step (pc' := 11) hK rfl rfl rfl ?_
    refine e_step (pc' := 12) hK rfl rfl rfl ?_
    refine e_cRV2 (z := 36) (pc' := 15) hK rfl rfl (by first | (simp (disch := omega) only [uo_s, uo_n, up_s, up_n, t0, f0, t1, l1, f1, f2, st1, stt]; rfl) | (show _ = 2; assumption) | (show _ = 1; assumption) | (show _ = 0; assumption) | (show _ = 3; assumption) | (show _ = 4; assumption)) rfl (Nat.le_of_ble_eq_true rfl) (Nat.le_of_ble_eq_true rfl) (c_place t0 o 1 f1 ho ho2 (by omega) (by omega)) (by decide) rfl ?_
    try simp (disch := omega) only [uo_s, uo_n, up_s, up_n, t0, f0, t1, l1, f1, f2, st1, stt]
    refine e_put (ci := 3) (k := 1) (pc' := 18) hK rfl (by simp (disch := omega) only [uo_s, uo_n, up_s, up_n, t0, f0, t1, l1, f1, f2, st1, stt]) rfl rfl (by decide) rfl rfl ?_
    refine e_step (pc' := 19) hK rfl rfl rfl ?_
    refine e_step (pc' := 20) hK rfl rfl rfl ?_
    refine e_getI (ci := 3) (k := 2) (pc' := 23) hK rfl (by simp (disch := omega) only [uo_s, uo_n, up_s, up_n, t0, f0, t1, l1, f1, f2, st1, stt]) rfl rfl (by decide) (by decide) rfl ?_
    try simp (disch := omega) only [uo_s, uo_n, up_s, up_n, t0, f0, t1, l1, f1, f2, st1, stt]
    refine e_step (pc' := 24) hK rfl rfl rfl ?_
    refine e_step (pc' := 25) hK rfl rfl rfl ?_
    refine e_put (ci := 3) (k := 2) (pc' := 28) hK rfl (by simp (disch := omega) only [uo_s, uo_n, up_s, up_n, t0, f0, t1, l1, f1, f2, st1, stt]) rfl rfl (by decide) rfl rfl ?_
    refine e_step (pc' := 29) hK rfl rfl rfl ?_
    refine e_getR (ci := 3) (k := 0) (pc' := 32) hK rfl (by simp (disch := omega) only [uo_s, uo_n, up_s, up_n, t0, f0, t1, l1, f1, f2, st1, stt]) rfl rfl (by decide) (by decide) (by (try simp (disch := omega) only [uo_s, uo_n, up_s, up_n, t0, f0, t1, l1, f1, f2, st1, stt]); omega) rfl ?_
    try simp (disch := omega) only [uo_s, uo_n, up_s, up_n, t0, f0, t1, l1, f1, f2, st1, stt]
    refine e_step (pc' := 33) hK rfl rfl rfl ?_
    refine e_step (pc' := 34) hK rfl rfl rfl ?_
    refine e_getI (ci := 3) (k := 2) (pc' := 37) hK rfl (by simp (disch := omega) only [uo_s, uo_n, up_s, up_n, t0, f0, t1, l1, f1, f2, st1, stt]) rfl rfl (by decide) (by decide) rfl ?_
    try simp (disch := omega) only [uo_s, uo_n, up_s, up_n, t0, f0, t1, l1, f1, f2, st1, stt]
    refine e_cRV2 (z := 36) (pc' := 40) hK rfl rfl (by first | (simp (disch := omega) only [uo_s, uo_n, up_s, up_n, t0, f0, t1, l1, f1, f2, st1, stt]; rfl) | (show _ = 2; assumption) | (show _ = 1; assumption) | (show _ = 0; assumption) | (show _ = 3; assumption) | (show _ = 4; assumption)) rfl (Nat.le_of_ble_eq_true rfl) (Nat.le_of_ble_eq_true rfl) (c_place (by simp (disch := omega) only [uo_s, t0]) ((o + 1) % 14) ((n : Int) - 1) (by simp (disch := omega) only [uo_s, uo_n, up_s, up_n, f1]) (by omega) (by omega) (by omega) (by omega)) (by decide) rfl ?_
    try simp (disch := omega) only [uo_s, uo_n, up_s, up_n, t0, f0, t1, l1, f1, f2, st1, stt]
    refine e_aald (pc' := 41) hK rfl (by simp (disch := omega) only [uo_s, uo_n, up_s, up_n, t0, f0, t1, l1, f1, f2, st1, stt]; decide) (by omega) (by (try simp (disch := omega) only [uo_s, uo_n, up_s, up_n, t0, f0, t1, l1, f1, f2, st1, stt]); omega) (by (try simp (disch := omega) only [uo_s, uo_n, up_s, up_n, t0, f0, t1, l1, f1, f2, st1, stt]); omega) rfl ?_
    try simp (disch := omega) only [uo_s, uo_n, up_s, up_n, t0, f0, t1, l1, f1, f2, st1, stt]
    refine e_step (pc' := 42) hK rfl rfl rfl ?_
    refine e_cQV2 (z := 16) hK rfl rfl (by first | (simp (disch := omega) only [uo_s, uo_n, up_s, up_n, t0, f0, t1, l1, f1, f2, st1, stt]; rfl) | (show _ = 2; assumption) | (show _ = 1; assumption) | (show _ = 0; assumption) | (show _ = 3; assumption) | (show _ = 4; assumption)) rfl (Nat.le_of_ble_eq_true rfl) (Nat.le_of_ble_eq_true rfl) (c_copyW (s := 182 + 5 * (((o + 1) % 14 + ((n : Int) - 1)) % 14)) (o := 165) ((hst _ (by omega) (by omega)).2.kp (fun b hb => by first | rfl | simp (disch := omega) only [uo_n])) (hA.kp (fun b hb => by first | rfl | simp (disch := omega) only [uo_n])) (by omega)) ?_
    rintro _ _ h2 ⟨rfl, rfl, hs2, hf2⟩
    refine ⟨by decide, ?_⟩
    rw [if_pos rfl]
    have g180 := hf2 180 (by omega)
    try simp (disch := omega) only [uo_s, uo_n, up_s, up_n] at g180
    have tg2 : (h2 180).1 = 3 := by simp (disch := omega) only [g180, t0]
    have tf2 : (h2 180).2.2 2 = ((n : Int) - 1) := by simp (disch := omega) only [g180, up_s, up_n, f2]
    have tf1 : (h2 180).2.2 1 = (o + 1) % 14 := by simp (disch := omega) only [g180, up_s, up_n, f1]
    have tf0 : (h2 180).2.2 0 = 181 := by simp (disch := omega) only [g180, up_s, up_n, f0]
    have q181 : h2 181 = h 181 := by { rw [hf2 181 (by omega)]; try simp (disch := omega) only [uo_n] }
    show mv_Ev _ _ 45 _ _ _ _ _
    refine e_step (pc' := 46) hK rfl rfl rfl ?_
    refine e_step (pc' := 47) hK rfl rfl rfl ?_
    refine e_getI (ci := 3) (k := 2) (pc' := 50) hK rfl (by simp (disch := omega) only [uo_s, uo_n, up_s, up_n, t0, f0, t1, l1, f1, f2, st1, stt, tg2, tf2]) rfl rfl (by decide) (by decide) rfl ?_
    try simp (disch := omega) only [uo_s, uo_n, up_s, up_n, t0, f0, t1, l1, f1, f2, st1, stt, tg2, tf2]
    refine e_step (pc' := 51) hK rfl rfl rfl ?_
    refine e_step (pc' := 52) hK rfl rfl rfl ?_
    refine e_put (ci := 3) (k := 2) (pc' := 55) hK rfl (by simp (disch := omega) only [uo_s, uo_n, up_s, up_n, t0, f0, t1, l1, f1, f2, st1, stt, tg2, tf2]) rfl rfl (by decide) rfl rfl ?_
    refine e_ret hK rfl rfl rfl ?_
    have ek : ∀ k : Int, 0 ≤ k → k < 14 → k ≠ ((o + 1) % 14 + ((n : Int) - 1)) % 14 → ∀ b : Int, (b ≤ 164 ∨ 277 ≤ b ∨ (182 + 5 * k ≤ b ∧ b ≤ 182 + 5 * k + 4)) → (mv_uo h2 180 ((h2 180).1, (h2 180).2.1, mv_up (h2 180).2.2 2 (((n : Int) - 1) + 1))) b = h b := fun k h0 h1 h2' b hb => by { rw [uo_n (by omega), hf2 b (by omega)]; try simp (disch := omega) only [uo_n] }
    have ew : StW (mv_uo h2 180 ((h2 180).1, (h2 180).2.1, mv_up (h2 180).2.2 2 (((n : Int) - 1) + 1))) (182 + 5 * (((o + 1) % 14 + ((n : Int) - 1)) % 14)) := hs2.1.kp (fun b hb => uo_n (by omega))
    have es : StA (mv_uo h2 180 ((h2 180).1, (h2 180).2.1, mv_up (h2 180).2.2 2 (((n : Int) - 1) + 1))) (182 + 5 * (((o + 1) % 14 + ((n : Int) - 1)) % 14)) A := hs2.kp (fun b hb => uo_n (by omega))
    refine ⟨rfl, rfl, ⟨⟨?_, ?_, ?_, ?_, fun k h0 h1 => ⟨?_, ?_⟩⟩, ?_, ?_, (o + 1) % 14, by omega, by omega, ?_, fun j h0 h1 => ?_⟩, (fun b hb => by { rw [uo_n (by omega), hf2 b (by omega)]; try simp (disch := omega) only [uo_n] })⟩
    · rw [uo_s]; exact tg2
    · rw [uo_s]; dsimp only; rw [up_n (show (0 : Int) ≠ 2 by decide)]; exact tf0
    · rw [uo_n (by decide), q181]; exact t1
    · rw [uo_n (by decide), q181]; exact l1
    · rw [uo_n (by decide), q181]; exact st1 k h0 h1
    · by_cases hk : k = ((o + 1) % 14 + ((n : Int) - 1)) % 14
      · rw [hk]; exact ew
      · exact (hst k h0 h1).2.kp (ek k h0 h1 hk)
    · unfold hs_n; split <;> omega
    · rw [uo_s]; dsimp only; rw [up_s]; unfold hs_n; split <;> omega
    · rw [uo_s]; dsimp only; rw [up_n (show (1 : Int) ≠ 2 by decide)]; exact tf1
    · unfold hs_n at h1
      rw [if_pos (by omega)] at h1
      unfold hs_g
      rw [if_pos (by omega)]
      by_cases hj : j = 13
      · show StA _ _ (if j = 13 then A else g (j + 1))
        rw [if_pos hj, hj, show ((o + 1) % 14 + 13) % 14 = ((o + 1) % 14 + ((n : Int) - 1)) % 14 from by omega]; exact es
      · show StA _ _ (if j = 13 then A else g (j + 1))
        rw [if_neg hj, show ((o + 1) % 14 + j) % 14 = (o + (j + 1)) % 14 from by omega]
        exact (hg (j + 1) (by omega) (by omega)).kp (ek _ (by omega) (by omega) (by omega))
set_option maxRecDepth 10000 in
theorem c_takeBack {n : Nat} {g : Int → lg} {A : lg} (hh : HsA h n g) (hA : StA h 165 A) (hn0 : 0 < n) : mv_Cl sc q_Hist_takeBack [(2, 180), (2, 165)] c h (fun r c' h' => r = (3, 0) ∧ c' = c ∧ HsA h' (n - 1) g ∧ StA h' 165 (g ((n : Int) - 1)) ∧ ∀ b : Int, (b < 165 ∨ (169 < b ∧ b ≠ 180)) → h' b = h b) := by
  obtain ⟨⟨t0, f0, t1, l1, hst⟩, hn, f2, o, ho, ho2, f1, hg⟩ := hh
  have st1 := fun (k : Int) (h0 : 0 ≤ k) (h1 : k < 14) => (hst k h0 h1).1
  have tgA := hA.1.2.2.1
  have stt := fun (k : Int) (h0 : 0 ≤ k) (h1 : k < 14) => (hst k h0 h1).2.2.2.1
  have tgA2 : (h 165).1 = 2 := tgA
  show mv_Ev sc 37 0 [(2, 180), (2, 165)] [] c h _
  have hK : (mv_m 37).1 = kc_Hist_takeBack := rfl
  refine e_step (pc' := 1) hK rfl rfl rfl ?_
  refine e_getI (ci := 3) (k := 2) (pc' := 4) hK rfl (by simp (disch := omega) only [uo_s, uo_n, up_s, up_n, t0, f0, t1, l1, f1, f2, st1, stt]) rfl rfl (by decide) (by decide) rfl ?_
  try simp (disch := omega) only [uo_s, uo_n, up_s, up_n, t0, f0, t1, l1, f1, f2, st1, stt]
  refine e_if (t := 34) (pc' := 7) hK rfl (by omega) (by decide) rfl (fun hb4 => ?_) (fun hb4 => ?_)
  · replace hb4 := cq_le.1.mp hb4
    exfalso; first | omega | exact absurd trivial (by assumption)
  · replace hb4 := cq_le.2.mp hb4
    refine e_step (pc' := 8) hK rfl rfl rfl ?_
    refine e_step (pc' := 9) hK rfl rfl rfl ?_
    refine e_getI (ci := 3) (k := 2) (pc' := 12) hK rfl (by simp (disch := omega) only [uo_s, uo_n, up_s, up_n, t0, f0, t1, l1, f1, f2, st1, stt]) rfl rfl (by decide) (by decide) rfl ?_
    try simp (disch := omega) only [uo_s, uo_n, up_s, up_n, t0, f0, t1, l1, f1, f2, st1, stt]
    refine e_step (pc' := 13) hK rfl rfl rfl ?_
    refine e_step (pc' := 14) hK rfl rfl rfl ?_
    refine e_put (ci := 3) (k := 2) (pc' := 17) hK rfl (by simp (disch := omega) only [uo_s, uo_n, up_s, up_n, t0, f0, t1, l1, f1, f2, st1, stt]) rfl rfl (by decide) rfl rfl ?_
    refine e_step (pc' := 18) hK rfl rfl rfl ?_
    refine e_step (pc' := 19) hK rfl rfl rfl ?_
    refine e_getR (ci := 3) (k := 0) (pc' := 22) hK rfl (by simp (disch := omega) only [uo_s, uo_n, up_s, up_n, t0, f0, t1, l1, f1, f2, st1, stt]) rfl rfl (by decide) (by decide) (by (try simp (disch := omega) only [uo_s, uo_n, up_s, up_n, t0, f0, t1, l1, f1, f2, st1, stt]); omega) rfl ?_
    try simp (disch := omega) only [uo_s, uo_n, up_s, up_n, t0, f0, t1, l1, f1, f2, st1, stt]
    refine e_step (pc' := 23) hK rfl rfl rfl ?_
    refine e_step (pc' := 24) hK rfl rfl rfl ?_
    refine e_getI (ci := 3) (k := 2) (pc' := 27) hK rfl (by simp (disch := omega) only [uo_s, uo_n, up_s, up_n, t0, f0, t1, l1, f1, f2, st1, stt]) rfl rfl (by decide) (by decide) rfl ?_
    try simp (disch := omega) only [uo_s, uo_n, up_s, up_n, t0, f0, t1, l1, f1, f2, st1, stt]
    refine e_cRV2 (z := 36) (pc' := 30) hK rfl rfl (by first | (simp (disch := omega) only [uo_s, uo_n, up_s, up_n, t0, f0, t1, l1, f1, f2, st1, stt]; rfl) | (show _ = 2; assumption) | (show _ = 1; assumption) | (show _ = 0; assumption) | (show _ = 3; assumption) | (show _ = 4; assumption)) rfl (Nat.le_of_ble_eq_true rfl) (Nat.le_of_ble_eq_true rfl) (c_place (by simp (disch := omega) only [uo_s, t0]) o ((n : Int) - 1) (by simp (disch := omega) only [uo_s, uo_n, up_s, up_n, f1]) (by omega) (by omega) (by omega) (by omega)) (by decide) rfl ?_
    try simp (disch := omega) only [uo_s, uo_n, up_s, up_n, t0, f0, t1, l1, f1, f2, st1, stt]
    refine e_aald (pc' := 31) hK rfl (by simp (disch := omega) only [uo_s, uo_n, up_s, up_n, t0, f0, t1, l1, f1, f2, st1, stt]; decide) (by omega) (by (try simp (disch := omega) only [uo_s, uo_n, up_s, up_n, t0, f0, t1, l1, f1, f2, st1, stt]); omega) (by (try simp (disch := omega) only [uo_s, uo_n, up_s, up_n, t0, f0, t1, l1, f1, f2, st1, stt]); omega) rfl ?_
    try simp (disch := omega) only [uo_s, uo_n, up_s, up_n, t0, f0, t1, l1, f1, f2, st1, stt]
    refine e_cQV2 (z := 16) hK rfl rfl (by first | (simp (disch := omega) only [uo_s, uo_n, up_s, up_n, t0, f0, t1, l1, f1, f2, st1, stt]; rfl) | (show _ = 2; assumption) | (show _ = 1; assumption) | (show _ = 0; assumption) | (show _ = 3; assumption) | (show _ = 4; assumption)) rfl (Nat.le_of_ble_eq_true rfl) (Nat.le_of_ble_eq_true rfl) (c_copyFrom (hA.kp (fun b hb => uo_n (by omega))) ((hg ((n : Int) - 1) (by omega) (by omega)).kp (fun b hb => uo_n (by omega))) (by omega)) ?_
    rintro _ _ h2 ⟨rfl, rfl, hs2, hf2⟩
    refine ⟨by decide, ?_⟩
    rw [if_pos rfl]
    show mv_Ev _ _ 34 _ _ _ _ _
    refine e_ret hK rfl rfl rfl ?_
    have ek : ∀ k : Int, 0 ≤ k → k < 14 → ∀ b : Int, (b ≤ 164 ∨ 277 ≤ b ∨ (182 + 5 * k ≤ b ∧ b ≤ 182 + 5 * k + 4)) → h2 b = h b := fun k h0 h1 b hb => by { rw [hf2 b (by omega), uo_n (by omega)] }
    have g180 := hf2 180 (by omega)
    rw [uo_s] at g180
    have g181 := hf2 181 (by omega)
    rw [uo_n (by decide)] at g181
    refine ⟨rfl, rfl, ⟨⟨?_, ?_, ?_, ?_, fun k h0 h1 => ⟨?_, (hst k h0 h1).2.kp (ek k h0 h1)⟩⟩, by omega, ?_, o, ho, ho2, ?_, fun j h0 h1 => (hg j h0 (by omega)).kp (ek _ (by omega) (by omega))⟩, hs2, fun b hb => by rw [hf2 b (by omega), uo_n (by omega)]⟩
    · rw [g180]
    · rw [g180]; dsimp only; rw [up_n (show (0 : Int) ≠ 2 by decide)]; exact f0
    · rw [g181]; exact t1
    · rw [g181]; exact l1
    · rw [g181]; exact st1 k h0 h1
    · rw [g180]; dsimp only; rw [up_s]; omega
    · rw [g180]; dsimp only; rw [up_n (show (1 : Int) ≠ 2 by decide)]; exact f1
set_option maxRecDepth 10000 in
theorem c_forgetAll {n : Nat} {g : Int → lg} (hh : HsA h n g) (g2 : Int → lg) : mv_Cl sc q_Hist_forgetAll [(2, 180)] c h (fun r c' h' => r = (3, 0) ∧ c' = c ∧ HsA h' 0 g2 ∧ ∀ b : Int, b ≠ 180 → h' b = h b) := by
  obtain ⟨⟨t0, f0, t1, l1, hst⟩, hn, f2, o, ho, ho2, f1, hg⟩ := hh
  show mv_Ev sc 38 0 [(2, 180)] [] c h _
  have hK : (mv_m 38).1 = kc_Hist_forgetAll := rfl
  refine e_step (pc' := 1) hK rfl rfl rfl ?_
  refine e_step (pc' := 2) hK rfl rfl rfl ?_
  refine e_put (ci := 3) (k := 2) (pc' := 5) hK rfl (by simp (disch := omega) only [uo_s, uo_n, up_s, up_n, t0, f0, t1, l1, f1, f2, t0]) rfl rfl (by decide) rfl rfl ?_
  refine e_ret hK rfl rfl rfl ?_
  refine ⟨rfl, rfl, ⟨⟨?_, ?_, ?_, ?_, fun k h0 h1 => ⟨?_, (hst k h0 h1).2.kp (fun b hb => uo_n (by omega))⟩⟩, by decide, ?_, o, ho, ho2, ?_, fun j h0 h1 => absurd h1 (by show ¬ j < 0; omega)⟩, fun b hb => uo_n hb⟩
  · rw [uo_s]; exact t0
  · rw [uo_s]; dsimp only; rw [up_n (show (0 : Int) ≠ 2 by decide)]; exact f0
  · rw [uo_n (by decide)]; exact t1
  · rw [uo_n (by decide)]; exact l1
  · rw [uo_n (by decide)]; exact (hst k h0 h1).1
  · rw [uo_s]; dsimp only; rw [up_s]; rfl
  · rw [uo_s]; dsimp only; rw [up_n (show (1 : Int) ≠ 2 by decide)]; exact f1
end HI
