/-! numbers: what the machine computes over words is what the small machine computes over whole numbers -/
/-! of the kit's rows for pasting -/
theorem wb_tb (n : Nat) : (lN n).toBitVec = BitVec.ofNat 64 n := rfl
theorem wb_inj {a b : Int64} (h : a.toBitVec = b.toBitVec) : a = b := Int64.toBitVec_inj.mp h
theorem wb_tn {n : Nat} (h : n < 2 ^ 64) : (lN n).toBitVec.toNat = n := by rw [wb_tb, BitVec.toNat_ofNat, Nat.mod_eq_of_lt h]
theorem wb_c : ∀ k, k < 64 → ((nI k).toInt64 &&& 63) = lN k := by decide +kernel
theorem wb_cu : ∀ k, k < 64 → ((nI k).toInt64.toUInt64 &&& Int64.toUInt64 63) = UInt64.ofNat k := by decide +kernel
theorem wb_sm : ∀ k, k < 64 → (BitVec.ofNat 64 k).smod 64 = BitVec.ofNat 64 k := by decide +kernel
theorem wb_mod (n : Nat) : lN n = lN (n % 2 ^ 64) := wb_inj (by rw [wb_tb, wb_tb]; apply BitVec.eq_of_toNat_eq; rw [BitVec.toNat_ofNat, BitVec.toNat_ofNat, Nat.mod_mod])
theorem wb_shr {n k : Nat} (hn : n < 2 ^ 64) (hk : k < 64) : ((lN n).toUInt64 >>> ((nI k).toInt64.toUInt64 &&& Int64.toUInt64 63)).toInt64 = lN (n / 2 ^ k) := by
  rw [wb_cu k hk]
  apply wb_inj
  apply BitVec.eq_of_toNat_eq
  show ((lN n).toUInt64 >>> UInt64.ofNat k).toNat = (BitVec.ofNat 64 _).toNat
  have h1 : (UInt64.ofNat k).toNat = k := by
    show (BitVec.ofNat 64 k).toNat = k
    rw [BitVec.toNat_ofNat, Nat.mod_eq_of_lt (by omega)]
  have h2 : (lN n).toUInt64.toNat = n := wb_tn hn
  rw [UInt64.toNat_shiftRight, h1, h2, Nat.mod_eq_of_lt hk, Nat.shiftRight_eq_div_pow, BitVec.toNat_ofNat, Nat.mod_eq_of_lt (Nat.lt_of_le_of_lt (Nat.div_le_self _ _) hn)]
theorem wb_shl (n : Nat) {k : Nat} (hk : k < 64) : lN n <<< ((nI k).toInt64 &&& 63) = lN (n * 2 ^ k) := by
  rw [wb_c k hk]
  apply wb_inj
  rw [Int64.toBitVec_shiftLeft, wb_tb, wb_tb, wb_tb, wb_sm k hk]
  apply BitVec.eq_of_toNat_eq
  rw [BitVec.shiftLeft_eq', BitVec.toNat_shiftLeft, BitVec.toNat_ofNat, BitVec.toNat_ofNat, BitVec.toNat_ofNat, Nat.mod_eq_of_lt (show k < 2 ^ 64 by omega), Nat.shiftLeft_eq, Nat.mul_mod, Nat.mod_mod, ← Nat.mul_mod]
/-! own -/
theorem nu_ti {x : Int} (h : mv_i x) : (Int32.ofInt x).toInt = x := Int32.toInt_ofInt_of_le (by have := h.1; omega) (by have := h.2; omega)
theorem nu_tl {x : Int} (h : mv_l x) : (Int64.ofInt x).toInt = x := Int64.toInt_ofInt_of_le (by have := h.1; omega) (by have := h.2; omega)
theorem nu_eqi {a b : Int32} (h : a.toInt = b.toInt) : a = b := Int32.toInt_inj.mp h
theorem nu_eql {a b : Int64} (h : a.toInt = b.toInt) : a = b := Int64.toInt_inj.mp h
theorem nu_lt {x y : Int} (hx : mv_i x) (hy : mv_i y) : Int32.ofInt x < Int32.ofInt y ↔ x < y := by
  rw [Int32.lt_iff_toInt_lt, nu_ti hx, nu_ti hy]
theorem nu_le {x y : Int} (hx : mv_i x) (hy : mv_i y) : Int32.ofInt x ≤ Int32.ofInt y ↔ x ≤ y := by
  rw [Int32.le_iff_toInt_le, nu_ti hx, nu_ti hy]
theorem nu_eq {x y : Int} (hx : mv_i x) (hy : mv_i y) : Int32.ofInt x = Int32.ofInt y ↔ x = y := by
  rw [← Int32.toInt_inj, nu_ti hx, nu_ti hy]
theorem nu_lL {x y : Int} (hx : mv_l x) (hy : mv_l y) : Int64.ofInt x < Int64.ofInt y ↔ x < y := by
  rw [Int64.lt_iff_toInt_lt, nu_tl hx, nu_tl hy]
theorem nu_eL {x y : Int} (hx : mv_l x) (hy : mv_l y) : Int64.ofInt x = Int64.ofInt y ↔ x = y := by
  rw [← Int64.toInt_inj, nu_tl hx, nu_tl hy]
theorem nu_nI (n : Nat) : Int32.ofInt (n : Int) = nI n := rfl
theorem nu_nz {y : Int} (h : 0 < y) (hy : mv_i y) : ¬ Int32.ofInt y = 0 := by
  intro e
  have h0 : (Int32.ofInt y).toInt = (0 : Int32).toInt := by rw [e]
  rw [nu_ti hy] at h0
  have : (0 : Int32).toInt = 0 := rfl
  omega
theorem nu_nzl {y : Int} (h : 0 < y) (hy : mv_l y) : ¬ Int64.ofInt y = 0 := by
  intro e
  have h0 : (Int64.ofInt y).toInt = (0 : Int64).toInt := by rw [e]
  rw [nu_tl hy] at h0
  have : (0 : Int64).toInt = 0 := rfl
  omega
theorem nu_tdb {x y : Int} (hy : 0 < y) : (0 ≤ x → 0 ≤ x.tdiv y ∧ x.tdiv y ≤ x) ∧ (x ≤ 0 → x ≤ x.tdiv y ∧ x.tdiv y ≤ 0) := by
  constructor
  · intro hx
    obtain ⟨a, rfl⟩ := Int.eq_ofNat_of_zero_le hx
    obtain ⟨b, rfl⟩ := Int.eq_ofNat_of_zero_le (Int.le_of_lt hy)
    have h1 : (a : Int).tdiv (b : Int) = ((a / b : Nat) : Int) := rfl
    rw [h1]
    have h2 := Nat.div_le_self a b
    generalize a / b = c at h2 ⊢
    omega
  · intro hx
    obtain ⟨a, ha⟩ := Int.eq_ofNat_of_zero_le (show 0 ≤ -x by omega)
    obtain ⟨b, rfl⟩ := Int.eq_ofNat_of_zero_le (Int.le_of_lt hy)
    have hx' : x = -(a : Int) := by omega
    subst hx'
    rw [Int.neg_tdiv]
    have h1 : (a : Int).tdiv (b : Int) = ((a / b : Nat) : Int) := rfl
    rw [h1]
    have h2 := Nat.div_le_self a b
    generalize a / b = c at h2 ⊢
    omega
theorem nu_tdi {x y : Int} (hx : mv_i x) (hy : 0 < y) : mv_i (x.tdiv y) := by
  obtain ⟨h1, h2⟩ := nu_tdb (x := x) hy
  have := hx.1; have := hx.2
  rcases Int.le_total 0 x with h | h
  · have := h1 h; exact ⟨by omega, by omega⟩
  · have := h2 h; exact ⟨by omega, by omega⟩
theorem nu_tdl {x y : Int} (hx : mv_l x) (hy : 0 < y) : mv_l (x.tdiv y) := by
  obtain ⟨h1, h2⟩ := nu_tdb (x := x) hy
  have := hx.1; have := hx.2
  rcases Int.le_total 0 x with h | h
  · have := h1 h; exact ⟨by omega, by omega⟩
  · have := h2 h; exact ⟨by omega, by omega⟩
theorem nu_bm32 {x : Int} (h : mv_i x) : x.bmod (2 ^ 32) = x := by
  have := h.1; have := h.2
  exact Int.bmod_eq_of_le (by omega) (by omega)
theorem nu_bm64 {x : Int} (h : mv_l x) : x.bmod (2 ^ 64) = x := by
  have := h.1; have := h.2
  exact Int.bmod_eq_of_le (by omega) (by omega)
theorem nu_div {x y : Int} (hx : mv_i x) (hp : 0 < y) (hy : mv_i y) : Int32.ofInt x / Int32.ofInt y = Int32.ofInt (x.tdiv y) := by
  apply nu_eqi
  rw [Int32.toInt_div, nu_ti hx, nu_ti hy, nu_ti (nu_tdi hx hp), nu_bm32 (nu_tdi hx hp)]
theorem nu_divl {x y : Int} (hx : mv_l x) (hp : 0 < y) (hy : mv_l y) : Int64.ofInt x / Int64.ofInt y = Int64.ofInt (x.tdiv y) := by
  apply nu_eql
  rw [Int64.toInt_div, nu_tl hx, nu_tl hy, nu_tl (nu_tdl hx hp), nu_bm64 (nu_tdl hx hp)]
theorem nu_rem {x y : Int} (hx : mv_i x) (hp : 0 < y) (hy : mv_i y) : Int32.ofInt x - Int32.ofInt x / Int32.ofInt y * Int32.ofInt y = Int32.ofInt (x.tmod y) := by
  rw [nu_div hx hp hy, ← Int32.ofInt_mul, ← Int32.ofInt_sub, Int.tmod_def, Int.mul_comm]
theorem nu_reml {x y : Int} (hx : mv_l x) (hp : 0 < y) (hy : mv_l y) : Int64.ofInt x - Int64.ofInt x / Int64.ofInt y * Int64.ofInt y = Int64.ofInt (x.tmod y) := by
  rw [nu_divl hx hp hy, ← Int64.ofInt_mul, ← Int64.ofInt_sub, Int.tmod_def, Int.mul_comm]
theorem nu_bv (x : Int) : (Int32.ofInt x).toBitVec = BitVec.ofInt 32 x := rfl
theorem nu_bvl (x : Int) : (Int64.ofInt x).toBitVec = BitVec.ofInt 64 x := rfl
theorem nu_bn (x : Int) : (Int32.ofInt x).toBitVec.toNat = (x % 4294967296).toNat := by
  rw [nu_bv, BitVec.toNat_ofInt]; rfl
theorem nu_bnl (x : Int) : (Int64.ofInt x).toBitVec.toNat = (x % 18446744073709551616).toNat := by
  rw [nu_bvl, BitVec.toNat_ofInt]; rfl
theorem nu_ext {a b : Int32} (h : a.toBitVec.toNat = b.toBitVec.toNat) : a = b := Int32.toBitVec_inj.mp (BitVec.eq_of_toNat_eq h)
theorem nu_extl {a b : Int64} (h : a.toBitVec.toNat = b.toBitVec.toNat) : a = b := Int64.toBitVec_inj.mp (BitVec.eq_of_toNat_eq h)
theorem nu_and1 (x : Int) : Int32.ofInt x &&& Int32.ofInt 1 = Int32.ofInt (x % 2) := by
  apply nu_ext
  rw [Int32.toBitVec_and, BitVec.toNat_and, nu_bn, nu_bn, nu_bn]
  rw [show ((1 : Int) % 4294967296).toNat = 2 ^ 1 - 1 from rfl, Nat.and_two_pow_sub_one_eq_mod]
  omega
theorem nu_and31 (x : Int) : Int32.ofInt x &&& Int32.ofInt 31 = Int32.ofInt (x % 32) := by
  apply nu_ext
  rw [Int32.toBitVec_and, BitVec.toNat_and, nu_bn, nu_bn, nu_bn]
  rw [show ((31 : Int) % 4294967296).toNat = 2 ^ 5 - 1 from rfl, Nat.and_two_pow_sub_one_eq_mod]
  omega
theorem nu_or {x y : Int} (hx : 0 ≤ x) (hy : 0 ≤ y) (h1 : mv_i x) (h2 : mv_i y) : Int32.ofInt x ||| Int32.ofInt y = Int32.ofInt ((x.toNat ||| y.toNat : Nat) : Int) := by
  apply nu_ext
  have hb : x.toNat ||| y.toNat < 2 ^ 31 := Nat.or_lt_two_pow (by have := h1.2; omega) (by have := h2.2; omega)
  rw [Int32.toBitVec_or, BitVec.toNat_or, nu_bn, nu_bn, nu_bn]
  rw [show (x % 4294967296).toNat = x.toNat by have := h1.2; omega, show (y % 4294967296).toNat = y.toNat by have := h2.2; omega]
  omega
theorem nu_xor {x y : Int} (hx : 0 ≤ x) (hy : 0 ≤ y) (h1 : mv_i x) (h2 : mv_i y) : Int32.ofInt x ^^^ Int32.ofInt y = Int32.ofInt ((x.toNat ^^^ y.toNat : Nat) : Int) := by
  apply nu_ext
  have hb : x.toNat ^^^ y.toNat < 2 ^ 31 := Nat.xor_lt_two_pow (by have := h1.2; omega) (by have := h2.2; omega)
  rw [Int32.toBitVec_xor, BitVec.toNat_xor, nu_bn, nu_bn, nu_bn]
  rw [show (x % 4294967296).toNat = x.toNat by have := h1.2; omega, show (y % 4294967296).toNat = y.toNat by have := h2.2; omega]
  omega
theorem nu_sm : ∀ n, n < 32 → ((Int32.ofInt (n : Nat) &&& 31).toBitVec.smod 32).toNat = n := by decide +kernel
theorem nu_mm (x m c : Int) : (x * c) % m = ((x % m) * c) % m := by
  rw [Int.mul_emod, Int.mul_emod (x % m) c, Int.emod_emod_of_dvd x (Int.dvd_refl m)]
theorem nu_shl {x y : Int} (h0 : 0 ≤ y) (h1 : y < 32) : Int32.ofInt x <<< (Int32.ofInt y &&& 31) = Int32.ofInt (x * 2 ^ y.toNat) := by
  apply nu_ext
  obtain ⟨k, rfl⟩ := Int.eq_ofNat_of_zero_le h0
  have hk : k < 32 := by omega
  rw [pk_shl (Int32.ofInt x) _ k (nu_sm k hk), nu_bn, nu_bn]
  rw [show ((k : Int)).toNat = k from rfl]
  have hp : ((2 : Int) ^ k) = ((2 ^ k : Nat) : Int) := (Int.natCast_pow 2 k).symm
  rw [hp]
  obtain ⟨z, hz⟩ := Int.eq_ofNat_of_zero_le (Int.emod_nonneg x (show (4294967296 : Int) ≠ 0 by decide))
  rw [nu_mm x, hz, ← Int.natCast_mul, show ((z : Int)).toNat = z from rfl]
  generalize z * 2 ^ k = w
  omega
theorem nu_shr {x y : Int} (hx : mv_i x) (h0 : 0 ≤ y) (h1 : y < 32) : Int32.ofInt x >>> (Int32.ofInt y &&& 31) = Int32.ofInt (x / 2 ^ y.toNat) := by
  apply nu_eqi
  obtain ⟨k, rfl⟩ := Int.eq_ofNat_of_zero_le h0
  have hk : k < 32 := by omega
  rw [pk_shr (Int32.ofInt x) _ k (nu_sm k hk), nu_ti hx, Int.shiftRight_eq_div_pow]
  rw [show ((k : Int)).toNat = k from rfl]
  have h2 : (0 : Int) < 2 ^ k := Int.pow_pos (by decide)
  have hb : mv_i (x / 2 ^ k) := by
    have := hx.1; have := hx.2
    constructor
    · rw [Int.le_ediv_iff_mul_le h2]
      have : (1 : Int) ≤ 2 ^ k := by omega
      have h3 : (-2147483648 : Int) * 2 ^ k ≤ -2147483648 * 1 := Int.mul_le_mul_of_nonpos_left (by decide) this
      omega
    · have h3 : x / 2 ^ k ≤ 2147483647 := by
        rcases Int.le_total 0 x with hh | hh
        · exact Int.le_trans (Int.ediv_le_self _ hh) hx.2
        · have : x / 2 ^ k ≤ 0 := Int.ediv_le_of_le_mul h2 (by omega)
          omega
      exact h3
  rw [nu_ti hb]
  norm_cast
theorem nu_landm (x : Int) : Int64.ofInt x &&& Int64.ofInt 4294967295 = Int64.ofInt (x % 4294967296) := by
  apply nu_extl
  rw [Int64.toBitVec_and, BitVec.toNat_and, nu_bnl, nu_bnl, nu_bnl]
  rw [show ((4294967295 : Int) % 18446744073709551616).toNat = 2 ^ 32 - 1 from rfl, Nat.and_two_pow_sub_one_eq_mod]
  omega
theorem nu_lor {x y : Int} (hx : x % 4294967296 = 0) (hy : 0 ≤ y) (h : y < 4294967296) : Int64.ofInt x ||| Int64.ofInt y = Int64.ofInt (x + y) := by
  apply nu_extl
  rw [Int64.toBitVec_or, BitVec.toNat_or, nu_bnl, nu_bnl, nu_bnl]
  obtain ⟨a, ha⟩ : ∃ a : Nat, (x % 18446744073709551616).toNat = 2 ^ 32 * a := ⟨(x % 18446744073709551616).toNat / 4294967296, by omega⟩
  have hb : (y % 18446744073709551616).toNat = y.toNat := by omega
  rw [ha, hb, ← Nat.two_pow_add_eq_or_of_lt (show y.toNat < 2 ^ 32 by omega)]
  omega
theorem nu_lN (x : Int) : Int64.ofInt x = lN (x % 18446744073709551616).toNat := by
  apply nu_extl
  rw [nu_bnl, wb_tb, BitVec.toNat_ofNat]
  omega
theorem nu_cong {x : Int} {a k : Nat} (ha : x % 18446744073709551616 = (a : Int)) : (x * 2 ^ k) % 18446744073709551616 = ((a * 2 ^ k % 18446744073709551616 : Nat) : Int) := by
  have hp : ((2 : Int) ^ k) = ((2 ^ k : Nat) : Int) := (Int.natCast_pow 2 k).symm
  rw [hp, nu_mm x, ha, ← Int.natCast_mul]
  generalize a * 2 ^ k = w
  omega
theorem nu_lshl {x y : Int} (h0 : 0 ≤ y) (h1 : y < 64) : Int64.ofInt x <<< ((Int32.ofInt y).toInt64 &&& 63) = Int64.ofInt (x * 2 ^ y.toNat) := by
  obtain ⟨k, rfl⟩ := Int.eq_ofNat_of_zero_le h0
  have hk : k < 64 := by omega
  obtain ⟨a, ha⟩ := Int.eq_ofNat_of_zero_le (Int.emod_nonneg x (show (18446744073709551616 : Int) ≠ 0 by decide))
  rw [nu_lN x, nu_nI, wb_shl _ hk, nu_lN, show ((k : Int)).toNat = k from rfl, nu_cong ha, ha, wb_mod]
  rfl
theorem nu_lushr {x y : Int} (h0 : 0 < y) (h1 : y < 64) : ((Int64.ofInt x).toUInt64 >>> ((Int32.ofInt y).toInt64.toUInt64 &&& Int64.toUInt64 63)).toInt64 = Int64.ofInt (x % 18446744073709551616 / 2 ^ y.toNat) := by
  obtain ⟨k, rfl⟩ := Int.eq_ofNat_of_zero_le (Int.le_of_lt h0)
  have hk : k < 64 := by omega
  obtain ⟨a, ha⟩ := Int.eq_ofNat_of_zero_le (Int.emod_nonneg x (show (18446744073709551616 : Int) ≠ 0 by decide))
  have hl : a < 2 ^ 64 := by omega
  rw [nu_lN x, nu_nI, ha, show ((a : Int)).toNat = a from rfl, wb_shr hl hk, show ((k : Int)).toNat = k from rfl]
  have hp : ((2 : Int) ^ k) = ((2 ^ k : Nat) : Int) := (Int.natCast_pow 2 k).symm
  rw [hp]
  rfl
theorem nu_i2l {x : Int} (h : mv_i x) : (Int32.ofInt x).toInt64 = Int64.ofInt x := by
  apply nu_eql
  rw [Int32.toInt_toInt64, nu_ti h, nu_tl ⟨by have := h.1; omega, by have := h.2; omega⟩]
theorem nu_l2i (x : Int) : (Int64.ofInt x).toInt32 = Int32.ofInt x := by
  apply nu_eqi
  rw [Int64.toInt_toInt32, Int64.toInt_ofInt, Int32.toInt_ofInt]
  exact Int.bmod_bmod_of_dvd (by decide)
theorem nu_i2c {x : Int} (h0 : 0 ≤ x) (h1 : x < 65536) : ((Int32.ofInt x).toUInt32 % 65536).toInt32 = Int32.ofInt x := by
  obtain ⟨k, rfl⟩ := Int.eq_ofNat_of_zero_le h0
  have h := pk_char (Int32.ofInt (k : Int))
  rw [h, nu_bn]
  rw [show (((k : Int) % 4294967296).toNat % 65536) = k by omega]
  rfl
theorem nu_narc {x : Int} (h0 : 0 ≤ x) (h1 : x < 65536) : vp_nar .char (Int32.ofInt x) = Int32.ofInt x := by
  rw [vp_nar_char]; exact nu_i2c h0 h1
theorem nu_cl {i : Int} (h0 : 0 ≤ i) (h1 : i < 2147483648) : (Int32.ofInt i).toNatClampNeg = i.toNat := by
  obtain ⟨k, rfl⟩ := Int.eq_ofNat_of_zero_le h0
  rw [nu_nI, nI_clamp (by omega)]; rfl
theorem nu_in {i : Int} {N : Nat} (h0 : 0 ≤ i) (h1 : i < N) (hN : N < 2147483648) : vp_in (Int32.ofInt i) N := by
  obtain ⟨k, rfl⟩ := Int.eq_ofNat_of_zero_le h0
  rw [nu_nI]
  exact vp_in_nI (by omega) (by omega)
