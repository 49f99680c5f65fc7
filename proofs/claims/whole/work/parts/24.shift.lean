theorem shl_step {X Y P T M q r d c : Int} (h : X + c * P = Y * T) (hs : M = d * T + c) (hq : M = r + q * 268435456) : X + r * P + q * (P * 268435456) = (Y + d * P) * T := by
  have e := carry_I (B := 268435456) (s := M) (d := d * T) h hs hq
  rw [e, Int.add_mul, Int.mul_right_comm]
theorem shl_bound {d t c : Nat} (hd : d < 268435456) (hc : c < 2 ^ t) : d * 2 ^ t + c < 268435456 * 2 ^ t := by
  have h : (d + 1) * 2 ^ t ≤ 268435456 * 2 ^ t := Nat.mul_le_mul_right _ hd
  rw [Nat.add_mul, Nat.one_mul] at h
  omega
theorem p2_27 {t : Nat} (ht : t < 28) : 2 ^ t ≤ 134217728 := by
  have := Nat.pow_le_pow_right (show 0 < 2 by omega) (show t ≤ 27 by omega)
  exact this
/-- digit k of a number moved down by t bits -/
theorem shd_dig (v t k : Nat) : dgt (v / 2 ^ t) k = (dgt v (k + t / 28) + dgt v (k + t / 28 + 1) * 268435456) / 2 ^ (t % 28) % 268435456 := by
  unfold dgt
  have e1 : t = 28 * (t / 28) + t % 28 := by omega
  have hlt : t % 28 < 28 := Nat.mod_lt _ (by omega)
  generalize t / 28 = a at *
  generalize t % 28 = r at *
  subst e1
  rw [Nat.pow_add, ← p28, Nat.div_div_eq_div_mul, Nat.mul_assoc, Nat.mul_comm (2 ^ r), ← Nat.mul_assoc, ← Nat.pow_add, Nat.add_comm a k, ← Nat.div_div_eq_div_mul, Nat.pow_succ, ← Nat.div_div_eq_div_mul]
  generalize v / 268435456 ^ (k + a) = x
  -- x / 2^r % B = (x % B + x / B % B * B) / 2^r % B
  have e2 : x % 268435456 + x / 268435456 % 268435456 * 268435456 = x % (268435456 * 268435456) := by rw [Nat.mod_mul, Nat.mul_comm 268435456]
  rw [e2]
  have e3 : 268435456 * 268435456 = 2 ^ r * (268435456 * 2 ^ (28 - r)) := by
    rw [Nat.mul_left_comm, ← Nat.pow_add, show r + (28 - r) = 28 by omega]
  rw [e3, Nat.mod_mul_right_div_self, Nat.mod_mul_right_mod]
theorem shd_lt {v t u : Nat} (h : v < 268435456 ^ u) (ht : t / 28 ≤ u) : v / 2 ^ t < 268435456 ^ (u - t / 28) := by
  apply Nat.div_lt_of_lt_mul
  refine Nat.lt_of_lt_of_le h ?_
  rw [p28, p28, ← Nat.pow_add]
  exact Nat.pow_le_pow_right (by omega) (by omega)
theorem jI_or2 {a b k : Nat} (ha : a < 2 ^ k) (hb : 2 ^ k ∣ b) (hs : a + b < 18446744073709551616) : jI (a : Int) ||| jI (b : Int) = jI ((a + b : Nat) : Int) := by
  rw [show a + b = b + a by omega, ← jI_or ha hb hs]
  exact Int64.toBitVec.inj (by rw [Int64.toBitVec_or, Int64.toBitVec_or]; exact BitVec.or_comm _ _)
