/-- all wholes' limbs are in range -/
def AD (σ : St) : Prop := ∀ q, WDg σ q
theorem AD.of {σ σ' : St} {l : List (Nat × Nat)} (h : AD σ) (f : Fr l σ σ') (g : ∀ q, (3, q) ∈ l → WDg σ' q) : AD σ' := fun q => by
  by_cases c : (3, q) ∈ l
  · exact g q c
  · exact (h q).fr f c
theorem AD.one {σ σ' : St} {i v : Nat} (h : AD σ) (f : Fr [(2, i), (3, i)] σ σ') (g : WN σ' i v) : AD σ' := h.of f (fun q hq => by simp at hq; subst hq; exact WN.dg g)
theorem AD.div {σ σ' : St} {r v q : Nat} (h : AD σ) (g : WN σ' r v ∧ WN σ' 7 q ∧ WDg σ' 8 ∧ WDg σ' 9 ∧ Fr [(8, 0), (2, 8), (3, 8), (2, 9), (3, 9), (2, 7), (3, 7), (2, r), (3, r)] σ σ') : AD σ' := by
  obtain ⟨g1, g2, g3, g4, f⟩ := g
  refine h.of f (fun q hq => ?_)
  simp at hq
  rcases hq with e | e | e | e <;> subst e
  · exact g3
  · exact g4
  · exact WN.dg g2
  · exact WN.dg g1
theorem lt79 {v : Nat} (h : v < 2 ^ 2048) : v < 268435456 ^ 79 := Nat.lt_of_lt_of_le (p2048 h) (Nat.pow_le_pow_right (by omega) (by omega))
theorem blen_fit {a b n : Nat} (h : a * b < 2 ^ n) : a * b = 0 ∨ blen a + blen b ≤ n + 1 := by
  by_cases e : a * b = 0
  · exact Or.inl e
  · refine Or.inr ?_
    have ha : a ≠ 0 := fun h => e (by rw [h, Nat.zero_mul])
    have hb : b ≠ 0 := fun h => e (by rw [h, Nat.mul_zero])
    have q1 := blen_ge ha
    have q2 := blen_ge hb
    have q3 := blen_pos ha
    have q4 := blen_pos hb
    have q5 := Nat.mul_le_mul q1 q2
    rw [← Nat.pow_add] at q5
    have q6 := (Nat.pow_lt_pow_iff_right (a := 2) (by omega)).mp (Nat.lt_of_le_of_lt q5 h)
    omega
/-- Euclid's divisions with how often: x + e v p and y - e v q are multiples of m -/
def iv (m v x y p q : Nat) (e : Int) : Prop := x * q + y * p = m ∧ (m : Int) ∣ (x : Int) + e * ((v : Int) * p) ∧ (m : Int) ∣ (y : Int) - e * ((v : Int) * q) ∧ p ≤ m ∧ y < x ∧ x ≤ m ∧ (e = 1 ∨ 1 < m)
theorem iv_0 {m v : Nat} (hm : m ≠ 0) : iv m v m (v % m) 0 1 1 := by
  refine ⟨by omega, ⟨1, by simp⟩, ⟨-((v / m : Nat) : Int), ?_⟩, by omega, Nat.mod_lt v (by omega), by omega, Or.inl rfl⟩
  have h := Nat.div_add_mod v m
  have h2 : (m : Int) * ((v / m : Nat) : Int) + ((v % m : Nat) : Int) = (v : Int) := by rw [← Int.natCast_mul, ← Int.natCast_add, h]
  rw [Int.mul_neg, Int.one_mul, show ((1 : Nat) : Int) = 1 from rfl, Int.mul_one]
  omega
theorem iv_s {m v x y p q : Nat} {e : Int} (hy : 0 < y) (h : iv m v x y p q e) : iv m v y (x % y) q (x / y * q + p) (-e) ∧ x / y * q + p ≤ m ∧ x / y * q ≤ m ∧ q ≤ m := by
  obtain ⟨h1, h2, h3, h4, h5, h6, h7⟩ := h
  have hd := Nat.div_add_mod x y
  have hq : q ≤ m := by
    have : 1 * q ≤ x * q := Nat.mul_le_mul_right q (by omega)
    omega
  have key : y * (x / y * q + p) + x % y * q = m := by
    rw [← h1, Nat.mul_add, ← Nat.mul_assoc]
    have : (y * (x / y) + x % y) * q = x * q := by rw [hd]
    rw [Nat.add_mul] at this
    omega
  have hle : x / y * q + p ≤ m := by
    have : 1 * (x / y * q + p) ≤ y * (x / y * q + p) := Nat.mul_le_mul_right _ hy
    omega
  refine ⟨⟨key, ?_, ?_, hq, Nat.mod_lt x hy, by omega, by omega⟩, hle, by omega, hq⟩
  · rw [Int.neg_mul, ← Int.sub_eq_add_neg]
    exact h3
  · have e1 : ((x % y : Nat) : Int) - -e * ((v : Int) * ((x / y * q + p : Nat) : Int)) = ((x : Int) + e * ((v : Int) * p)) - ((x / y : Nat) : Int) * ((y : Int) - e * ((v : Int) * q)) := by
      have e2 : (x : Int) = (y : Int) * ((x / y : Nat) : Int) + ((x % y : Nat) : Int) := by rw [← Int.natCast_mul, ← Int.natCast_add, hd]
      rw [Int.natCast_add, Int.natCast_mul]
      generalize ((x / y : Nat) : Int) = c at *
      generalize ((x % y : Nat) : Int) = z at *
      rw [e2]
      simp only [Int.mul_add, Int.mul_sub, Int.neg_mul, Int.sub_eq_add_neg, Int.neg_add, Int.neg_neg]
      rw [show e * ((v : Int) * (c * q)) = c * (e * ((v : Int) * q)) by simp only [Int.mul_left_comm, Int.mul_comm, Int.mul_assoc], Int.mul_comm (y : Int) c, Int.mul_neg]
      omega
    rw [e1]
    exact Int.dvd_sub h2 (Int.dvd_trans h3 (Int.dvd_mul_left _ _))
theorem iv_p {m v p q : Nat} (h : iv m v 1 0 p q 1) (hp : p ≠ 0) : m - p < m ∧ v * (m - p) % m = 1 % m := by
  obtain ⟨h1, ⟨k, h2⟩, h3, h4, h5⟩ := h
  refine ⟨by omega, ?_⟩
  have e1 : v * (m - p) + v * p = v * m := by rw [← Nat.mul_add, Nat.sub_add_cancel h4]
  have e2 : ((1 + v * p : Nat) : Int) % (m : Int) = 0 := by
    have : ((1 + v * p : Nat) : Int) = (m : Int) * k := by rw [← h2, Int.natCast_add, Int.natCast_mul]; simp
    rw [this]; exact Int.mul_emod_right _ _
  have e3 : (1 + v * p) % m = 0 := by exact_mod_cast e2
  have e4 := Nat.div_add_mod (1 + v * p) m
  rw [e3] at e4
  have e5 : v * (m - p) + m * ((1 + v * p) / m) = 1 + m * v := by rw [Nat.mul_comm m v]; omega
  rw [← Nat.add_mul_mod_self_left (v * (m - p)) m ((1 + v * p) / m), e5, Nat.add_mul_mod_self_left]
theorem iv_m {m v p q : Nat} (hm0 : m ≠ 0) (h : iv m v 1 0 p q (-1)) : p < m := by
  obtain ⟨h1, ⟨k, h2⟩, h3, h4, h5, h6, h7⟩ := h
  by_cases e : p = m
  · exfalso
    subst e
    have : (p : Int) ∣ 1 := ⟨k + v, by rw [Int.mul_add, ← h2, Int.mul_comm (p : Int) v]; simp; omega⟩
    have h9 := Int.le_of_dvd (by decide) this
    clear h2 this
    omega
  · omega
theorem iv_n {m v p q : Nat} (h : iv m v 1 0 p q (-1)) : v * p % m = 1 % m := by
  obtain ⟨h1, ⟨k, h2⟩, h3, h4, h5⟩ := h
  have e2 : ((v * p : Nat) : Int) % (m : Int) = ((1 : Nat) : Int) % (m : Int) := by
    have : ((v * p : Nat) : Int) = ((1 : Nat) : Int) + (m : Int) * (-k) := by rw [Int.mul_neg, ← h2, Int.natCast_mul]; simp; omega
    rw [this]; exact Int.add_mul_emod_self_left _ _ _
  exact_mod_cast e2
theorem iv_z {m v q : Nat} (hm0 : m ≠ 0) (h : iv m v 1 0 0 q 1) : m = 1 := by
  obtain ⟨h1, h2, h3, h4, h5⟩ := h
  have : (m : Int) ∣ 1 := by simpa using h2
  have h9 := Int.le_of_dvd (by decide) this
  clear h2 h3 this
  omega
