/-- the divisor stands ready: m moved up by t bits, in n limbs, the highest full -/
def ND (σ : St) (m t n : Nat) : Prop := σ 8 0 0 = (t : Int) ∧ t < 28 ∧ σ 2 8 0 = (n : Int) ∧ n ≤ 80 ∧ 1 ≤ n ∧ WDg σ 8 ∧ vB 268435456 (fW σ 8) n = m * 2 ^ t ∧ 134217728 ≤ σ 3 8 (n - 1)
theorem blen_mul2 {m t : Nat} (hm : m ≠ 0) : blen (m * 2 ^ t) = blen m + t := by
  have := blen_shift (v := 0) (t := m) (e := t) hm (Nat.two_pow_pos t)
  rw [Nat.zero_add] at this
  omega
theorem ND_of {σ : St} {m t u d : Nat} (hm : m ≠ 0) (h8 : σ 8 0 0 = (t : Int)) (hb : blen m = (u - 1) * 28 + d) (hd1 : 1 ≤ d) (hd2 : d ≤ 28) (hu : 1 ≤ u) (ht : t = 28 - d) (hN : WN σ 8 (m * 2 ^ t)) : ∃ n, ND σ m t n := by
  obtain ⟨n, h1, h2, h3, h4, h5⟩ := hN
  have hp : 0 < m * 2 ^ t := Nat.mul_pos (by omega) (Nat.two_pow_pos t)
  have hn : 0 < n := by
    rcases Nat.eq_zero_or_pos n with h | h
    · have := (WN_0 h4 h3 h5).mp h; omega
    · exact h
  have e1 := WN_bl h4 h3 h5 hn
  rw [blen_mul2 hm] at e1
  have hq : (σ 3 8 (n - 1)).toNat ≠ 0 := by have := h4 hn; have := (h3 (n - 1)).1; omega
  have b1 := blen_pos hq
  have b2 : blen (σ 3 8 (n - 1)).toNat ≤ 28 := blen_le (dg_lt h3 (n - 1))
  have b3 : blen (σ 3 8 (n - 1)).toNat = 28 := by omega
  have b4 := blen_ge hq
  rw [b3] at b4
  exact ⟨n, h8, by omega, h1, h2, hn, h3, h5, by have : (2 : Nat) ^ (28 - 1) = 134217728 := rfl; omega⟩
theorem ND.fr {σ s : St} {m t n : Nat} {l : List (Nat × Nat)} (h : ND σ m t n) (hf : Fr l σ s) (h1 : (8, 0) ∉ l) (h2 : (2, 8) ∉ l) (h3 : (3, 8) ∉ l) : ND s m t n := by
  unfold ND WDg fW at *
  rw [hf 8 0 h1, hf 2 8 h2, hf 3 8 h3]
  exact h
theorem m_lt {a b c : Nat} (h : a < 268435456 ^ b) (hc : c < 28) : a * 2 ^ c < 268435456 ^ (b + 1) := by
  rw [Nat.pow_succ]
  exact Nat.mul_lt_mul'' h (Nat.lt_of_lt_of_le (Nat.pow_lt_pow_right (by omega) hc) (by decide))
