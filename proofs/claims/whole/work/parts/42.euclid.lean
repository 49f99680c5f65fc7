/-- how far Euclid's divisions have come: after k of them -/
def eu (k x y : Nat) : Prop := if k % 2 = 0 then y < 2 ^ (2048 - k / 2) else x < 2 ^ (2048 - k / 2) ∧ y < x
theorem eu_0 {x y : Nat} (h : y < 2 ^ 2048) : eu 0 x y := by unfold eu; rw [if_pos (by omega)]; exact h
theorem mod_half {x y : Nat} (hy : 0 < y) (h : y < x) : 2 * (x % y) < x := by
  have h1 := Nat.mod_lt x hy
  have h2 := Nat.div_add_mod x y
  have h3 : 1 ≤ x / y := Nat.div_pos (by omega) hy
  have h4 : y * 1 ≤ y * (x / y) := Nat.mul_le_mul_left _ h3
  omega
theorem eu_s {k x y : Nat} (hy : 0 < y) (hk : k < 4096) (h : eu k x y) : eu (k + 1) y (x % y) := by
  unfold eu at *
  by_cases hp : k % 2 = 0
  · rw [if_pos hp] at h
    rw [if_neg (by omega), show (k + 1) / 2 = k / 2 by omega]
    exact ⟨h, Nat.mod_lt x hy⟩
  · rw [if_neg hp] at h
    rw [if_pos (by omega)]
    have h1 := mod_half hy h.2
    have e : 2048 - k / 2 = (2048 - (k + 1) / 2) + 1 := by omega
    have h2 := h.1
    rw [e, Nat.pow_succ] at h2
    omega
theorem eu_end {x y : Nat} (h : eu 4096 x y) : y = 0 := by
  unfold eu at h
  rw [if_pos (by omega)] at h
  have e : (2 : Nat) ^ (2048 - 4096 / 2) = 1 := rfl
  omega
theorem p2048 {v : Nat} (h : v < 2 ^ 2048) : v < 268435456 ^ 78 := by
  rw [p28]
  exact Nat.lt_of_lt_of_le h (Nat.pow_le_pow_right (by omega) (by omega))
