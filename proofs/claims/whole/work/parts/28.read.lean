theorem row_fr {l : List (Nat × Nat)} {σ s : St} {r : Nat} (h : Fr l σ s) (h0 : (0, r) ∉ l) (h1 : (1, r) ∉ l) : row s r = row σ r := by unfold row; rw [h 0 r h0, h 1 r h1]
theorem okR_fr {l : List (Nat × Nat)} {σ s : St} {r : Nat} (h : Fr l σ s) (h0 : (0, r) ∉ l) (h1 : (1, r) ∉ l) (ho : okR σ r) : okR s r := by unfold okR; rw [h 0 r h0, h 1 r h1]; exact ho
theorem read_step {L : List Nat} {n cn hb V h : Nat} (hn : n < L.length) (hb8 : 8 * (L.length - (n + 1)) = 28 * cn + hb) (hval : V + h * 268435456 ^ cn = rv (L.drop (n + 1))) : V + (h + L.getD n 0 * 2 ^ hb) * 268435456 ^ cn = rv (L.drop n) := by
  rw [drop_cons hn, rv_cons, List.length_drop, p256, hb8, ← hval, Nat.pow_add, ← p28, Nat.add_mul, Nat.mul_assoc (L.getD n 0), Nat.mul_comm (2 ^ hb)]
  omega
theorem flush_step {V h P : Nat} : V + h % 268435456 * P + h / 268435456 * (P * 268435456) = V + h * P := by
  have e : h = h % 268435456 + h / 268435456 * 268435456 := by omega
  have e2 : h * P = (h % 268435456 + h / 268435456 * 268435456) * P := by rw [← e]
  rw [e2, Nat.add_mul, Nat.mul_assoc (h / 268435456), Nat.mul_comm 268435456 P]
  omega
theorem held_lt {h x hb : Nat} (h1 : h < 2 ^ hb) (h2 : x < 256) : h + x * 2 ^ hb < 2 ^ (hb + 8) := by
  have h3 : (x + 1) * 2 ^ hb ≤ 256 * 2 ^ hb := Nat.mul_le_mul_right _ h2
  rw [Nat.add_mul, Nat.one_mul] at h3
  have e : 2 ^ (hb + 8) = 256 * 2 ^ hb := by rw [Nat.pow_add, Nat.mul_comm]
  rw [e]
  omega
theorem vB_suN {σ : St} {i m : Nat} {v : Nat} : vB 268435456 (fW (su σ 3 i m (v : Int)) i) (m + 1) = vB 268435456 (fW σ i) m + v * 268435456 ^ m := by
  have h := vB_suS (σ := σ) (i := i) (m := m) (v := (v : Int)) (by omega)
  rw [← Int.natCast_mul, ← Int.natCast_add] at h
  exact Int.ofNat.inj h
