/-! the digit of a long division, guessed by the highest digits (Knuth, D3) -/
theorem g_hi {P d0 V2 w0 U3 x : Nat} (hd0 : d0 < P) (hw : x * V2 ≤ U3) (hx : x < 268435456) (hV : 268435456 ≤ V2) : x * (d0 + V2 * P) < w0 + U3 * P + (d0 + V2 * P) := by
  have h1 : x * (d0 + V2 * P) = x * d0 + x * V2 * P := by rw [Nat.mul_add, Nat.mul_assoc]
  have h2 : x * V2 * P ≤ U3 * P := Nat.mul_le_mul_right _ hw
  have h3 : x * d0 ≤ x * P := Nat.mul_le_mul_left _ (by omega)
  have h4 : (x + 1) * P ≤ V2 * P := Nat.mul_le_mul_right _ (by omega)
  rw [Nat.add_mul, Nat.one_mul] at h4
  omega
theorem g_lo {P d0 V2 w0 U3 x : Nat} (hw0 : w0 < P) (hw : U3 < x * V2) : w0 + U3 * P < x * (d0 + V2 * P) := by
  have h1 : x * (d0 + V2 * P) = x * d0 + x * V2 * P := by rw [Nat.mul_add, Nat.mul_assoc]
  have h2 : (U3 + 1) * P ≤ x * V2 * P := Nat.mul_le_mul_right _ hw
  rw [Nat.add_mul, Nat.one_mul] at h2
  omega
theorem g_first {P d0 H w0 U2 x : Nat} (hw0 : w0 < P) (hw : U2 < (x + 1) * H) : w0 + U2 * P < (x + 1) * (d0 + H * P) := by
  have h1 : (x + 1) * (d0 + H * P) = (x + 1) * d0 + (x + 1) * H * P := by rw [Nat.mul_add, Nat.mul_assoc]
  have h2 : (U2 + 1) * P ≤ (x + 1) * H * P := Nat.mul_le_mul_right _ hw
  rw [Nat.add_mul, Nat.one_mul] at h2
  omega
/-- the three digits: x times two of the divisor against three of the number -/
theorem g_three {x H l U2 m L : Nat} (hL : x * H + L = U2) : x * (l + H * 268435456) ≤ m + U2 * 268435456 ↔ x * l ≤ L * 268435456 + m := by
  have e : U2 * 268435456 = x * H * 268435456 + L * 268435456 := by rw [← hL, Nat.add_mul]
  have e2 : x * (l + H * 268435456) = x * l + x * H * 268435456 := by rw [Nat.mul_add, Nat.mul_assoc]
  omega
theorem vB_2 {f : Nat → Nat} {k : Nat} : vB 268435456 f (k + 2) = vB 268435456 f k + (f k + f (k + 1) * 268435456) * 268435456 ^ k := by
  rw [vB_suc, vB_suc, Nat.pow_succ, Nat.add_mul, Nat.mul_assoc (f (k + 1)), Nat.mul_comm 268435456]
  omega
theorem vB_3 {f : Nat → Nat} {k : Nat} : vB 268435456 f (k + 3) = vB 268435456 f k + (f k + (f (k + 1) + f (k + 2) * 268435456) * 268435456) * 268435456 ^ k := by
  rw [vB_suc, vB_2, Nat.pow_succ, Nat.pow_succ]
  simp only [Nat.add_mul, Nat.mul_assoc]
  rw [Nat.mul_comm 268435456 (268435456 ^ k), Nat.mul_left_comm 268435456 (268435456 ^ k)]
  simp only [Nat.mul_assoc, Nat.mul_comm, Nat.mul_left_comm]
  omega
