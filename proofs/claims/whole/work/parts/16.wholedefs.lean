/-! the class's whole numbers: limbs of 28 bits -/
abbrev WN (σ : St) (i v : Nat) : Prop := nm 2 3 268435456 80 σ i v
theorem p28 (n : Nat) : 268435456 ^ n = 2 ^ (28 * n) := by rw [Nat.pow_mul]
section WD
variable {σ : St} {i v u : Nat}
theorem dg_lt (hd : ∀ j, 0 ≤ σ 3 i j ∧ σ 3 i j < ((268435456 : Nat) : Int)) (j : Nat) : (σ 3 i j).toNat < 268435456 := by have := hd j; omega
theorem WN_0 (ht : 0 < u → σ 3 i (u - 1) ≠ 0) (hd : ∀ j, 0 ≤ σ 3 i j ∧ σ 3 i j < ((268435456 : Nat) : Int)) (hv : vB 268435456 (fun j => (σ 3 i j).toNat) u = v) : u = 0 ↔ v = 0 := by
  constructor
  · intro h; subst h; exact hv.symm
  · intro h
    rcases Nat.eq_zero_or_pos u with h0 | h0
    · exact h0
    · have h1 := vB_top (b := 268435456) (f := fun j => (σ 3 i j).toNat) h0 (by have := ht h0; have := (hd (u - 1)).1; show (σ 3 i (u - 1)).toNat ≠ 0; omega)
      have h2 : 0 < 268435456 ^ (u - 1) := Nat.pow_pos (by omega)
      omega
theorem WN_lo (hd : ∀ j, 0 ≤ σ 3 i j ∧ σ 3 i j < ((268435456 : Nat) : Int)) (hv : vB 268435456 (fun j => (σ 3 i j).toNat) u = v) (hu : 0 < u) : v % 268435456 = (σ 3 i 0).toNat := by
  rw [← hv]
  exact vB_one (by omega) hu (fun j _ => dg_lt hd j)
theorem WN_1 (hv : vB 268435456 (fun j => (σ 3 i j).toNat) 1 = v) : v = (σ 3 i 0).toNat := by
  rw [← hv]
  show 0 + (σ 3 i 0).toNat * 268435456 ^ 0 = _
  rw [Nat.pow_zero]; omega
theorem WN_2 (ht : 0 < u → σ 3 i (u - 1) ≠ 0) (hd : ∀ j, 0 ≤ σ 3 i j ∧ σ 3 i j < ((268435456 : Nat) : Int)) (hv : vB 268435456 (fun j => (σ 3 i j).toNat) u = v) (h2 : 2 ≤ u) : 268435456 ≤ v := by
  have h1 := vB_top (b := 268435456) (f := fun j => (σ 3 i j).toNat) (n := u) (by omega) (by have := ht (by omega); have := (hd (u - 1)).1; show (σ 3 i (u - 1)).toNat ≠ 0; omega)
  have h3 : 268435456 ^ 1 ≤ 268435456 ^ (u - 1) := Nat.pow_le_pow_right (by omega) (by omega)
  omega
theorem WN_dig (hd : ∀ j, 0 ≤ σ 3 i j ∧ σ 3 i j < ((268435456 : Nat) : Int)) (hv : vB 268435456 (fun j => (σ 3 i j).toNat) u = v) (k : Nat) : (if k < u then σ 3 i k else 0) = ((v / 268435456 ^ k % 268435456 : Nat) : Int) := by
  rw [← hv]
  split
  · rw [vB_dig (by omega) (by assumption) (fun j _ => dg_lt hd j)]
    have := (hd k).1
    omega
  · rw [vB_digO (by omega) (by omega) (fun j _ => dg_lt hd j)]
    rfl
theorem WN_bl (ht : 0 < u → σ 3 i (u - 1) ≠ 0) (hd : ∀ j, 0 ≤ σ 3 i j ∧ σ 3 i j < ((268435456 : Nat) : Int)) (hv : vB 268435456 (fun j => (σ 3 i j).toNat) u = v) (hu : 0 < u) : blen v = (u - 1) * 28 + blen (σ 3 i (u - 1)).toNat := by
  obtain ⟨m, rfl⟩ : ∃ m, u = m + 1 := ⟨u - 1, by omega⟩
  rw [show m + 1 - 1 = m by omega] at *
  rw [← hv]
  show blen (vB 268435456 (fun j => (σ 3 i j).toNat) m + (σ 3 i m).toNat * 268435456 ^ m) = _
  rw [p28, blen_shift, Nat.mul_comm]
  · have := ht hu; have := (hd m).1; omega
  · rw [← p28]; exact vB_lt (fun j _ => dg_lt hd j)
end WD
theorem bit_dig (v m : Nat) : v / 268435456 ^ (m / 28) % 268435456 / 2 ^ (m % 28) % 2 = v / 2 ^ m % 2 := by
  have e1 : m = 28 * (m / 28) + m % 28 := by omega
  have hlt : m % 28 < 28 := Nat.mod_lt _ (by omega)
  rw [p28]
  conv => rhs; rw [e1, Nat.pow_add, ← Nat.div_div_eq_div_mul]
  generalize v / 2 ^ (28 * (m / 28)) = x
  generalize m % 28 = r at hlt
  have e2 : 268435456 = 2 ^ r * 2 ^ (28 - r) := by rw [← Nat.pow_add, show r + (28 - r) = 28 by omega]
  rw [e2, Nat.mod_mul_right_div_self]
  have e3 : 2 ^ (28 - r) = 2 * 2 ^ (27 - r) := by rw [show 28 - r = (27 - r) + 1 by omega, Nat.pow_succ, Nat.mul_comm]
  rw [e3, Nat.mod_mul_right_mod]
theorem WN.le {σ : St} {i v : Nat} (h : WN σ i v) : v < 2 ^ 2240 := by
  obtain ⟨u, -, h1, h2, -, h3⟩ := h
  have a := vB_lt (b := 268435456) (f := fun j => (σ 3 i j).toNat) (n := u) (fun j _ => dg_lt h2 j)
  rw [h3, p28] at a
  exact Nat.lt_of_lt_of_le a (Nat.pow_le_pow_right (by omega) (by omega))
