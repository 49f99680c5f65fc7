theorem pw_sq {x E δ : Nat} : (x ^ E % δ) * (x ^ E % δ) % δ = x ^ (2 * E) % δ := by
  rw [← Nat.mul_mod, ← Nat.pow_add, show E + E = 2 * E by omega]
theorem pw_mul {x E δ : Nat} : (x ^ (2 * E) % δ) * (x % δ) % δ = x ^ (2 * E + 1) % δ := by
  rw [← Nat.mul_mod, Nat.pow_succ]
theorem pw_bit {e n : Nat} : e / 2 ^ n = 2 * (e / 2 ^ (n + 1)) + e / 2 ^ n % 2 := by
  rw [Nat.pow_succ, ← Nat.div_div_eq_div_mul]
  omega
theorem pw_end {x e m t : Nat} : x ^ e % (m * 2 ^ t) * 2 ^ t % (m * 2 ^ t) / 2 ^ t = x ^ e % m := by
  rw [Nat.mul_mod_mul_right, Nat.mul_div_cancel _ (Nat.two_pow_pos t), Nat.mod_mul_right_mod]
theorem ND.lt {σ : St} {m t n k : Nat} (h : ND σ m t n) (hm : m < 2 ^ (28 * k)) (hk : 0 < k) : m * 2 ^ t < 268435456 ^ k ∧ 1 < m * 2 ^ t := by
  obtain ⟨h1, h2, h3, h4, h5, h6, h7, h8⟩ := h
  have hp : 0 < m * 2 ^ t := Nat.lt_of_lt_of_le (Nat.pow_pos (n := n - 1) (show 0 < 268435456 by omega)) (WN.ge h6 (fun _ => by omega) h7 h5)
  have hm0 : m ≠ 0 := by intro h; subst h; omega
  have hq : (σ 3 8 (n - 1)).toNat ≠ 0 := by omega
  have e1 := WN_bl (fun _ => by omega) h6 h7 h5
  rw [blen_mul2 hm0] at e1
  have b2 : 28 ≤ blen (σ 3 8 (n - 1)).toNat := by
    rcases Nat.lt_or_ge (blen (σ 3 8 (n - 1)).toNat) 28 with h | h
    · exfalso
      have := blen_lt (σ 3 8 (n - 1)).toNat
      have h9 : 2 ^ blen (σ 3 8 (n - 1)).toNat ≤ 2 ^ 27 := Nat.pow_le_pow_right (by omega) (by omega)
      omega
    · exact h
  have b3 : blen (σ 3 8 (n - 1)).toNat ≤ 28 := blen_le (dg_lt h6 (n - 1))
  have b4 : blen m ≤ 28 * k := blen_le hm
  have hn : n ≤ k := by omega
  refine ⟨used_lt_pow h6 h7 hn, ?_⟩
  have h9 := WN.ge h6 (fun _ => by omega) h7 h5
  rcases Nat.lt_or_ge n 2 with h10 | h10
  · have e5 : n = 1 := by omega
    subst e5
    have := WN_1 h7
    have h8' : 134217728 ≤ σ 3 8 0 := h8
    omega
  · have := WN_2 (fun _ => by omega) h6 h7 h10
    omega
