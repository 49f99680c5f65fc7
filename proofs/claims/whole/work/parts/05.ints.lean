/-! whole numbers on the machine: an int is iI z, a long jI z -/
def iI (z : Int) : Int32 := Int32.ofInt z
def jI (z : Int) : Int64 := Int64.ofInt z
def rI (z : Int) : Prop := -2147483648 ≤ z ∧ z < 2147483648
def rJ (z : Int) : Prop := -9223372036854775808 ≤ z ∧ z < 9223372036854775808
theorem iI_nat (n : Nat) : iI (n : Int) = nI n := Int32.ofInt_eq_ofNat
theorem jI_nat (n : Nat) : jI (n : Int) = lN n := Int64.ofInt_eq_ofNat
theorem iI_t {z : Int} (h : rI z) : (iI z).toInt = z := Int32.toInt_ofInt_of_le h.1 h.2
theorem jI_t {z : Int} (h : rJ z) : (jI z).toInt = z := Int64.toInt_ofInt_of_le h.1 h.2
theorem iI_of (x : Int32) : iI x.toInt = x := Int32.ofInt_toInt x
theorem jI_of (x : Int64) : jI x.toInt = x := Int64.ofInt_toInt x
theorem rI_of (x : Int32) : rI x.toInt := ⟨x.le_toInt, x.toInt_lt⟩
theorem rJ_of (x : Int64) : rJ x.toInt := ⟨x.le_toInt, x.toInt_lt⟩
theorem iI_add (a b : Int) : iI a + iI b = iI (a + b) := (Int32.ofInt_add a b).symm
theorem iI_sub (a b : Int) : iI a - iI b = iI (a - b) := (Int32.ofInt_sub a b).symm
theorem iI_mul (a b : Int) : iI a * iI b = iI (a * b) := (Int32.ofInt_mul a b).symm
theorem iI_neg (a : Int) : - iI a = iI (- a) := (Int32.ofInt_neg a).symm
theorem jI_add (a b : Int) : jI a + jI b = jI (a + b) := (Int64.ofInt_add a b).symm
theorem jI_sub (a b : Int) : jI a - jI b = jI (a - b) := (Int64.ofInt_sub a b).symm
theorem jI_mul (a b : Int) : jI a * jI b = jI (a * b) := (Int64.ofInt_mul a b).symm
theorem iI_lt {a b : Int} (ha : rI a) (hb : rI b) : iI a < iI b ↔ a < b := by rw [Int32.lt_iff_toInt_lt, iI_t ha, iI_t hb]
theorem iI_le {a b : Int} (ha : rI a) (hb : rI b) : iI a ≤ iI b ↔ a ≤ b := by rw [Int32.le_iff_toInt_le, iI_t ha, iI_t hb]
theorem iI_eq {a b : Int} (ha : rI a) (hb : rI b) : iI a = iI b ↔ a = b := by rw [← Int32.toInt_inj, iI_t ha, iI_t hb]
theorem jI_lt {a b : Int} (ha : rJ a) (hb : rJ b) : jI a < jI b ↔ a < b := by rw [Int64.lt_iff_toInt_lt, jI_t ha, jI_t hb]
theorem jI_le {a b : Int} (ha : rJ a) (hb : rJ b) : jI a ≤ jI b ↔ a ≤ b := by rw [Int64.le_iff_toInt_le, jI_t ha, jI_t hb]
theorem jI_eq {a b : Int} (ha : rJ a) (hb : rJ b) : jI a = jI b ↔ a = b := by rw [← Int64.toInt_inj, jI_t ha, jI_t hb]
theorem iI_0 : iI 0 = 0 := rfl
theorem iI_lt0 {a : Int} (ha : rI a) : iI a < 0 ↔ a < 0 := iI_lt ha (b := 0) (by unfold rI; omega)
theorem iI_le0 {a : Int} (ha : rI a) : iI a ≤ 0 ↔ a ≤ 0 := iI_le ha (b := 0) (by unfold rI; omega)
theorem iI_ge0 {a : Int} (ha : rI a) : 0 ≤ iI a ↔ 0 ≤ a := iI_le (a := 0) (by unfold rI; omega) ha
theorem iI_gt0 {a : Int} (ha : rI a) : 0 < iI a ↔ 0 < a := iI_lt (a := 0) (by unfold rI; omega) ha
theorem iI_eq0 {a : Int} (ha : rI a) : iI a = 0 ↔ a = 0 := iI_eq ha (b := 0) (by unfold rI; omega)
theorem iI_div {a b : Int} (ha : 0 ≤ a) (ha2 : a < 2147483648) (hb : 0 < b) (hb2 : b < 2147483648) : iI a / iI b = iI (a / b) := by
  have h1 : 0 ≤ a / b := Int.ediv_nonneg ha (by omega)
  have h2 : a / b ≤ a := Int.ediv_le_self b ha
  apply Int32.toInt_inj.mp
  rw [Int32.toInt_div, iI_t (⟨by omega, ha2⟩), iI_t (⟨by omega, hb2⟩), iI_t (⟨by omega, by omega⟩), Int.tdiv_eq_ediv_of_nonneg ha]
  exact Int.bmod_eq_of_le (by omega) (by omega)
theorem iI_rem {a b : Int} (ha : 0 ≤ a) (ha2 : a < 2147483648) (hb : 0 < b) (hb2 : b < 2147483648) : iI a - iI a / iI b * iI b = iI (a % b) := by
  rw [iI_div ha ha2 hb hb2, iI_mul, iI_sub]
  congr 1
  have := Int.mul_ediv_add_emod a b
  rw [Int.mul_comm] at this
  omega
theorem jI_div {a b : Int} (ha : 0 ≤ a) (ha2 : a < 9223372036854775808) (hb : 0 < b) (hb2 : b < 9223372036854775808) : jI a / jI b = jI (a / b) := by
  have h1 : 0 ≤ a / b := Int.ediv_nonneg ha (by omega)
  have h2 : a / b ≤ a := Int.ediv_le_self b ha
  apply Int64.toInt_inj.mp
  rw [Int64.toInt_div, jI_t (⟨by omega, ha2⟩), jI_t (⟨by omega, hb2⟩), jI_t (⟨by omega, by omega⟩), Int.tdiv_eq_ediv_of_nonneg ha]
  exact Int.bmod_eq_of_le (by omega) (by omega)
theorem jI_rem {a b : Int} (ha : 0 ≤ a) (ha2 : a < 9223372036854775808) (hb : 0 < b) (hb2 : b < 9223372036854775808) : jI a - jI a / jI b * jI b = jI (a % b) := by
  rw [jI_div ha ha2 hb hb2, jI_mul, jI_sub]
  congr 1
  have := Int.mul_ediv_add_emod a b
  rw [Int.mul_comm] at this
  omega
theorem iI_bv (a : Int) : (iI a).toBitVec.toNat = (a % 4294967296).toNat := by
  show (BitVec.ofInt 32 a).toNat = _
  rw [BitVec.toNat_ofInt]; rfl
theorem jI_bv (a : Int) : (jI a).toBitVec.toNat = (a % 18446744073709551616).toNat := by
  show (BitVec.ofInt 64 a).toNat = _
  rw [BitVec.toNat_ofInt]; rfl
theorem iI_ext {x y : Int32} (h : x.toBitVec.toNat = y.toBitVec.toNat) : x = y := Int32.toBitVec.inj (BitVec.eq_of_toNat_eq h)
theorem jI_ext {x y : Int64} (h : x.toBitVec.toNat = y.toBitVec.toNat) : x = y := Int64.toBitVec.inj (BitVec.eq_of_toNat_eq h)
theorem md_32 (a : Int) {k : Nat} (hk : k ≤ 32) : (a % 4294967296) % ((2 ^ k : Nat) : Int) = a % ((2 ^ k : Nat) : Int) := by
  apply Int.emod_emod_of_dvd
  exact ⟨((2 ^ (32 - k) : Nat) : Int), by rw [← Int.natCast_mul, ← Nat.pow_add, show k + (32 - k) = 32 by omega]; rfl⟩
theorem md_64 (a : Int) {k : Nat} (hk : k ≤ 64) : (a % 18446744073709551616) % ((2 ^ k : Nat) : Int) = a % ((2 ^ k : Nat) : Int) := by
  apply Int.emod_emod_of_dvd
  exact ⟨((2 ^ (64 - k) : Nat) : Int), by rw [← Int.natCast_mul, ← Nat.pow_add, show k + (64 - k) = 64 by omega]; rfl⟩
theorem iI_mask (a : Int) (k : Nat) (hk : k ≤ 31) : iI a &&& iI ((2 ^ k - 1 : Nat) : Int) = iI (a % ((2 ^ k : Nat) : Int)) := by
  have hp : 0 < 2 ^ k := Nat.two_pow_pos k
  have hp2 : 2 ^ k ≤ 2 ^ 31 := Nat.pow_le_pow_right (by omega) hk
  apply iI_ext
  rw [Int32.toBitVec_and, BitVec.toNat_and, iI_bv, iI_bv, iI_bv]
  rw [show (((2 ^ k - 1 : Nat) : Int) % 4294967296).toNat = 2 ^ k - 1 by omega, Nat.and_two_pow_sub_one_eq_mod]
  have h1 := md_32 a (show k ≤ 32 by omega)
  have h0 : 0 ≤ a % ((2 ^ k : Nat) : Int) := Int.emod_nonneg _ (by omega)
  have h2 : a % ((2 ^ k : Nat) : Int) < ((2 ^ k : Nat) : Int) := Int.emod_lt_of_pos _ (by omega)
  rw [Int.emod_eq_of_lt h0 (by omega)]
  rw [← h1]
  have h3 : 0 ≤ a % 4294967296 := Int.emod_nonneg _ (by omega)
  generalize a % 4294967296 = b at h3
  obtain ⟨n, rfl⟩ := Int.eq_ofNat_of_zero_le h3
  rw [← Int.natCast_emod, Int.toNat_natCast, Int.toNat_natCast]
theorem jI_mask (a : Int) (k : Nat) (hk : k ≤ 63) : jI a &&& jI ((2 ^ k - 1 : Nat) : Int) = jI (a % ((2 ^ k : Nat) : Int)) := by
  have hp : 0 < 2 ^ k := Nat.two_pow_pos k
  have hp2 : 2 ^ k ≤ 2 ^ 63 := Nat.pow_le_pow_right (by omega) hk
  apply jI_ext
  rw [Int64.toBitVec_and, BitVec.toNat_and, jI_bv, jI_bv, jI_bv]
  rw [show (((2 ^ k - 1 : Nat) : Int) % 18446744073709551616).toNat = 2 ^ k - 1 by omega, Nat.and_two_pow_sub_one_eq_mod]
  have h1 := md_64 a (show k ≤ 64 by omega)
  have h0 : 0 ≤ a % ((2 ^ k : Nat) : Int) := Int.emod_nonneg _ (by omega)
  have h2 : a % ((2 ^ k : Nat) : Int) < ((2 ^ k : Nat) : Int) := Int.emod_lt_of_pos _ (by omega)
  rw [Int.emod_eq_of_lt h0 (by omega)]
  rw [← h1]
  have h3 : 0 ≤ a % 18446744073709551616 := Int.emod_nonneg _ (by omega)
  generalize a % 18446744073709551616 = b at h3
  obtain ⟨n, rfl⟩ := Int.eq_ofNat_of_zero_le h3
  rw [← Int.natCast_emod, Int.toNat_natCast, Int.toNat_natCast]
theorem sh_l : ∀ n, n < 32 → ((nI n &&& 31).toBitVec.smod 32).toNat = n := by decide +kernel
theorem sh_u : ∀ n, n < 32 → (((nI n).toUInt32 &&& Int32.toUInt32 31).toBitVec % 32).toNat = n := by decide +kernel
theorem iI_shl (a : Int) (k : Nat) (hk : k < 32) : iI a <<< (iI (k : Int) &&& 31) = iI (a * ((2 ^ k : Nat) : Int)) := by
  rw [iI_nat k]
  apply iI_ext
  rw [pk_shl _ _ k (sh_l k hk), iI_bv, iI_bv]
  have h3 : 0 ≤ a % 4294967296 := Int.emod_nonneg _ (by omega)
  have e : (a * ((2 ^ k : Nat) : Int)) % 4294967296 = ((a % 4294967296) * ((2 ^ k : Nat) : Int)) % 4294967296 := by rw [Int.mul_emod a, Int.mul_emod (a % 4294967296) ((2 ^ k : Nat) : Int), Int.emod_emod]
  rw [e]
  generalize a % 4294967296 = b at h3
  obtain ⟨n, rfl⟩ := Int.eq_ofNat_of_zero_le h3
  rw [← Int.natCast_mul, show (4294967296 : Int) = ((4294967296 : Nat) : Int) from rfl, ← Int.natCast_emod, Int.toNat_natCast, Int.toNat_natCast]
theorem iI_shr {a : Int} (ha : rI a) (k : Nat) (hk : k < 32) : iI a >>> (iI (k : Int) &&& 31) = iI (a / ((2 ^ k : Nat) : Int)) := by
  rw [iI_nat k]
  apply Int32.toInt_inj.mp
  have hp : 0 < 2 ^ k := Nat.two_pow_pos k
  rw [pk_shr _ _ k (sh_l k hk), iI_t ha, Int.shiftRight_eq_div_pow]
  have e : (2 : Int) ^ k = ((2 ^ k : Nat) : Int) := by rw [Int.natCast_pow]; rfl
  rw [iI_t]
  have h1 : a / ((2 ^ k : Nat) : Int) * ((2 ^ k : Nat) : Int) ≤ a := Int.ediv_mul_le a (by omega)
  have h2 : a < (a / ((2 ^ k : Nat) : Int) + 1) * ((2 ^ k : Nat) : Int) := Int.lt_ediv_add_one_mul_self a (by omega)
  have hm : (1 : Int) ≤ ((2 ^ k : Nat) : Int) := by omega
  generalize ((2 ^ k : Nat) : Int) = m at *
  unfold rI at *
  refine ⟨?_, ?_⟩
  · rcases Int.lt_or_le (a / m) (-2147483648) with h | h
    · exfalso
      have : (a / m + 1) * m ≤ (a / m + 1) * 1 := Int.mul_le_mul_of_nonpos_left (by omega) (by omega)
      omega
    · exact h
  · rcases Int.lt_or_le (a / m) 2147483648 with h | h
    · exact h
    · exfalso
      have : (a / m) * 1 ≤ (a / m) * m := Int.mul_le_mul_of_nonneg_left (by omega) (by omega)
      omega
theorem iI_ushr {a : Int} (ha : 0 ≤ a) (ha2 : a < 4294967296) (k : Nat) (hk : k < 32) : ((iI a).toUInt32 >>> ((iI (k : Int)).toUInt32 &&& Int32.toUInt32 31)).toInt32 = iI (a / ((2 ^ k : Nat) : Int)) := by
  obtain ⟨n, rfl⟩ := Int.eq_ofNat_of_zero_le ha
  rw [iI_nat k, iI_nat n, pk_ushrN (by omega) _ k (sh_u k hk), ← Int.natCast_ediv, iI_nat]
theorem sh_lj : ∀ n, n < 64 → (((nI n).toInt64 &&& 63).toBitVec.smod 64).toNat = n := by decide +kernel
theorem sh_uj : ∀ n, n < 64 → (((nI n).toInt64.toUInt64 &&& Int64.toUInt64 63).toBitVec % 64).toNat = n := by decide +kernel
theorem jI_shl (a : Int) (k : Nat) (hk : k < 64) : jI a <<< ((iI (k : Int)).toInt64 &&& 63) = jI (a * ((2 ^ k : Nat) : Int)) := by
  rw [iI_nat k]
  apply jI_ext
  show ((jI a).toBitVec <<< (((nI k).toInt64 &&& 63).toBitVec.smod 64).toNat).toNat = _
  rw [sh_lj k hk, BitVec.toNat_shiftLeft, Nat.shiftLeft_eq, jI_bv, jI_bv]
  have h3 : 0 ≤ a % 18446744073709551616 := Int.emod_nonneg _ (by omega)
  have e : (a * ((2 ^ k : Nat) : Int)) % 18446744073709551616 = ((a % 18446744073709551616) * ((2 ^ k : Nat) : Int)) % 18446744073709551616 := by rw [Int.mul_emod a, Int.mul_emod (a % 18446744073709551616) ((2 ^ k : Nat) : Int), Int.emod_emod]
  rw [e]
  generalize a % 18446744073709551616 = b at h3
  obtain ⟨n, rfl⟩ := Int.eq_ofNat_of_zero_le h3
  rw [← Int.natCast_mul, show (18446744073709551616 : Int) = ((18446744073709551616 : Nat) : Int) from rfl, ← Int.natCast_emod, Int.toNat_natCast, Int.toNat_natCast]
theorem jI_shr {a : Int} (ha : rJ a) (k : Nat) (hk : k < 64) : jI a >>> ((iI (k : Int)).toInt64 &&& 63) = jI (a / ((2 ^ k : Nat) : Int)) := by
  rw [iI_nat k]
  apply Int64.toInt_inj.mp
  have hp : 0 < 2 ^ k := Nat.two_pow_pos k
  show ((jI a).toBitVec.sshiftRight (((nI k).toInt64 &&& 63).toBitVec.smod 64).toNat).toInt = _
  rw [sh_lj k hk, BitVec.toInt_sshiftRight]
  show (jI a).toInt >>> k = _
  rw [jI_t ha, Int.shiftRight_eq_div_pow]
  have e : (2 : Int) ^ k = ((2 ^ k : Nat) : Int) := by rw [Int.natCast_pow]; rfl
  rw [jI_t]
  have h1 : a / ((2 ^ k : Nat) : Int) * ((2 ^ k : Nat) : Int) ≤ a := Int.ediv_mul_le a (by omega)
  have h2 : a < (a / ((2 ^ k : Nat) : Int) + 1) * ((2 ^ k : Nat) : Int) := Int.lt_ediv_add_one_mul_self a (by omega)
  have hm : (1 : Int) ≤ ((2 ^ k : Nat) : Int) := by omega
  generalize ((2 ^ k : Nat) : Int) = m at *
  unfold rJ at *
  refine ⟨?_, ?_⟩
  · rcases Int.lt_or_le (a / m) (-9223372036854775808) with h | h
    · exfalso
      have : (a / m + 1) * m ≤ (a / m + 1) * 1 := Int.mul_le_mul_of_nonpos_left (by omega) (by omega)
      omega
    · exact h
  · rcases Int.lt_or_le (a / m) 9223372036854775808 with h | h
    · exact h
    · exfalso
      have : (a / m) * 1 ≤ (a / m) * m := Int.mul_le_mul_of_nonneg_left (by omega) (by omega)
      omega
theorem jI_ushr {a : Int} (ha : 0 ≤ a) (ha2 : a < 9223372036854775808) (k : Nat) (hk : k < 64) : ((jI a).toUInt64 >>> ((iI (k : Int)).toInt64.toUInt64 &&& Int64.toUInt64 63)).toInt64 = jI (a / ((2 ^ k : Nat) : Int)) := by
  have hp : 0 < 2 ^ k := Nat.two_pow_pos k
  obtain ⟨n, rfl⟩ := Int.eq_ofNat_of_zero_le ha
  rw [iI_nat k]
  apply jI_ext
  have e : ((jI (n : Int)).toUInt64 >>> ((nI k).toInt64.toUInt64 &&& Int64.toUInt64 63)).toInt64.toBitVec = (jI (n : Int)).toBitVec >>> k := by
    conv => rhs; rw [← sh_uj k hk]
    exact UInt64.toBitVec_shiftRight _ _
  rw [e, BitVec.toNat_ushiftRight, Nat.shiftRight_eq_div_pow, jI_bv, jI_bv, ← Int.natCast_ediv]
  have := Nat.div_le_self n (2 ^ k)
  rw [show ((n : Int) % 18446744073709551616).toNat = n by omega]
  generalize n / 2 ^ k = d at this ⊢
  omega
theorem iI_or {a b k : Nat} (ha : a < 2 ^ k) (hb : 2 ^ k ∣ b) (hs : a + b < 4294967296) : iI (b : Int) ||| iI (a : Int) = iI ((b + a : Nat) : Int) := by
  apply iI_ext
  rw [Int32.toBitVec_or, BitVec.toNat_or, iI_bv, iI_bv, iI_bv]
  rw [show ((b : Int) % 4294967296).toNat = b by omega, show ((a : Int) % 4294967296).toNat = a by omega, show (((b + a : Nat) : Int) % 4294967296).toNat = b + a by omega]
  obtain ⟨q, rfl⟩ := hb
  rw [Nat.two_pow_add_eq_or_of_lt ha]
theorem jI_or {a b k : Nat} (ha : a < 2 ^ k) (hb : 2 ^ k ∣ b) (hs : a + b < 18446744073709551616) : jI (b : Int) ||| jI (a : Int) = jI ((b + a : Nat) : Int) := by
  apply jI_ext
  rw [Int64.toBitVec_or, BitVec.toNat_or, jI_bv, jI_bv, jI_bv]
  rw [show ((b : Int) % 18446744073709551616).toNat = b by omega, show ((a : Int) % 18446744073709551616).toNat = a by omega, show (((b + a : Nat) : Int) % 18446744073709551616).toNat = b + a by omega]
  obtain ⟨q, rfl⟩ := hb
  rw [Nat.two_pow_add_eq_or_of_lt ha]
theorem iI_xor {a b : Nat} (ha : a < 256) (hb : b < 256) : iI (a : Int) ^^^ iI (b : Int) = iI ((a ^^^ b : Nat) : Int) := by
  have hx : a ^^^ b < 2 ^ 8 := Nat.xor_lt_two_pow (show a < 2 ^ 8 by omega) (show b < 2 ^ 8 by omega)
  apply iI_ext
  rw [Int32.toBitVec_xor, BitVec.toNat_xor, iI_bv, iI_bv, iI_bv]
  rw [show ((b : Int) % 4294967296).toNat = b by omega, show ((a : Int) % 4294967296).toNat = a by omega]
  omega
theorem iI_i2l {a : Int} (ha : rI a) : (iI a).toInt64 = jI a := by
  apply Int64.toInt_inj.mp
  have h1 : -2147483648 ≤ a := ha.1
  have h2 : a < 2147483648 := ha.2
  rw [Int32.toInt_toInt64, iI_t ha, jI_t ⟨by omega, by omega⟩]
theorem jI_l2i (a : Int) : (jI a).toInt32 = iI a := Int64.toInt32_ofInt
/-- a byte as it lies in a byte array -/
def bI (z : Int) : Int32 := (iI z).toInt8.toInt32
theorem bI_and (z : Int) : bI z &&& iI 255 = iI (z % 256) := by
  have h : iI 255 = iI ((2 ^ 8 - 1 : Nat) : Int) := rfl
  rw [h, ← iI_of (bI z), iI_mask _ 8 (by omega)]
  congr 1
  show (iI z).toInt8.toInt32.toInt % 256 = z % 256
  rw [Int8.toInt_toInt32, Int32.toInt_toInt8]
  show ((Int32.ofInt z).toInt.bmod 256) % 256 = z % 256
  rw [Int32.toInt_ofInt, show Int32.size = 4294967296 from rfl]
  have e1 : ((z.bmod 4294967296).bmod 256) % 256 = (z.bmod 4294967296) % 256 := Int.bmod_emod
  have e2 : z.bmod 4294967296 % 4294967296 = z % 4294967296 := Int.bmod_emod
  omega
theorem bI_nar (z : Int) : vp_nar .byte (bI z) = bI z := pk_vb _
theorem bI_i2b (z : Int) : (iI z).toInt8.toInt32 = bI z := rfl
theorem iI_lcmp {a b : Int} (ha : rJ a) (hb : rJ b) : lg_cmp (jI a) (jI b) = if a < b then (-1 : Int32) else if b < a then 1 else 0 := by
  unfold lg_cmp
  have h1 := jI_lt ha hb
  have h2 := jI_lt hb ha
  have h3 := jI_eq ha hb
  by_cases x1 : a < b <;> by_cases x2 : b < a <;> simp [h1, h2, h3, x1, x2] <;> omega
