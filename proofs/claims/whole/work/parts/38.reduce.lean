/-! the steps of a long division -/
theorem win_1 {s : St} {o k : Nat} (M : Nat) : vB 268435456 (win s o k) (M + 1) = (s 3 o k).toNat + vB 268435456 (win s o (k + 1)) M * 268435456 := by
  rw [Nat.add_comm M 1, vB_split, vB_1, Nat.pow_one]
  rw [vB_congr (f := fun j => win s o k (1 + j)) (g := win s o (k + 1)) (fun j _ => by show (s 3 o (k + (1 + j))).toNat = (s 3 o (k + 1 + j)).toNat; rw [show k + (1 + j) = k + 1 + j by omega])]
  rfl
theorem vB_cut {f : Nat → Nat} {n M : Nat} (hd : ∀ j, j < M → f j < 268435456) (hn : n ≤ M) (h : vB 268435456 f M < 268435456 ^ n) : vB 268435456 f n = vB 268435456 f M ∧ vB 268435456 (fun j => f (n + j)) (M - n) = 0 := by
  have h1 := vB_mod (b := 268435456) hn hd
  rw [Nat.mod_eq_of_lt h] at h1
  have h2 := vB_div (b := 268435456) (by omega) hn hd
  rw [Nat.div_eq_of_lt h] at h2
  exact ⟨h1.symm, h2.symm⟩
theorem win_paste {s s' : St} {o k n M : Nat} (hn : n ≤ M) (hz : vB 268435456 (fun j => win s o k (n + j)) (M - n) = 0) (hag : ∀ j, k + n ≤ j → s' 3 o j = s 3 o j) : vB 268435456 (win s' o k) M = vB 268435456 (win s' o k) n := by
  obtain ⟨d, rfl⟩ := Nat.le.dest hn
  rw [vB_split]
  rw [show n + d - n = d by omega] at hz
  rw [vB_congr (f := fun j => win s' o k (n + j)) (g := fun j => win s o k (n + j)) (fun j _ => by show (s' 3 o (k + (n + j))).toNat = (s 3 o (k + (n + j))).toNat; rw [hag _ (by omega)]), hz]
  omega
theorem win_0 {s : St} {o n : Nat} : vB 268435456 (win s o 0) n = vB 268435456 (fW s o) n := vB_congr (fun j _ => by show (s 3 o (0 + j)).toNat = (s 3 o j).toNat; rw [Nat.zero_add])
theorem red_first {N a n δ : Nat} (hN : N < 268435456 ^ a) (hn : 1 ≤ n) (hna : n ≤ a) (hδ : 268435456 ^ (n - 1) ≤ δ) : N / 268435456 ^ (a - n + 1) < δ := by
  refine Nat.lt_of_lt_of_le (Nat.div_lt_of_lt_mul ?_) hδ
  rw [← Nat.pow_add, show a - n + 1 + (n - 1) = a by omega]
  exact hN
theorem red_step {A Q q W R δ d hi : Nat} (h1 : A = Q * δ + hi) (h2 : W = d + hi * 268435456) (h3 : R + q * δ = W) : A * 268435456 + d = (q + Q * 268435456) * δ + R := by
  rw [h1, Nat.add_mul, Nat.add_mul, Nat.mul_right_comm Q]
  omega
theorem dm_of {N Q R δ : Nat} (h : N = Q * δ + R) (hR : R < δ) : N / δ = Q ∧ N % δ = R := by
  subst h
  rw [Nat.add_comm (Q * δ) R]
  exact ⟨by rw [Nat.add_mul_div_right _ _ (by omega), Nat.div_eq_of_lt hR, Nat.zero_add], by rw [Nat.add_mul_mod_self_right, Nat.mod_eq_of_lt hR]⟩
