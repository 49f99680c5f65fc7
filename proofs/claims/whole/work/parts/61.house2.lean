theorem ord3 {r : Int} {v y : Nat} (h : r = (if v < y then -1 else if v = y then 0 else 1)) : (r = -1 ∧ v < y) ∨ (r = 0 ∧ v = y) ∨ (r = 1 ∧ y < v) := by
  subst h
  by_cases h1 : v < y
  · rw [if_pos h1]; exact Or.inl ⟨rfl, h1⟩
  · rw [if_neg h1]
    by_cases h2 : v = y
    · rw [if_pos h2]; exact Or.inr (Or.inl ⟨rfl, h2⟩)
    · rw [if_neg h2]; exact Or.inr (Or.inr ⟨rfl, by omega⟩)
theorem gcd_b {a b : Nat} (ha : a < 2 ^ 2048) (hb : b < 2 ^ 2048) : Nat.gcd a b < 2 ^ 2048 := by
  by_cases e : a = 0
  · rw [e, Nat.gcd_zero_left]; exact hb
  · exact Nat.lt_of_le_of_lt (Nat.gcd_le_left b (by omega)) ha
theorem rcap_s {i : Nat} (h : i < 24) : rcap i = 256 := by unfold rcap; rw [if_pos h]
theorem b1024 {v : Nat} (h : v < 2 ^ 1024) : v < 2 ^ 2048 := Nat.lt_of_lt_of_le h (Nat.pow_le_pow_right (by omega) (by omega))
def nby (v : Nat) : Nat := (blen v + 7) / 8
def fitN (n : Nat) : Prop := 8 ≤ nby n ∧ nby n ≤ 128
def PQ (p q : Nat) : Prop := p ≠ 2 ∧ q ≠ 2 ∧ PB p ∧ PB q
def XE (e n : Nat) : Prop := e % 2 = 1 ∧ e ≠ 1 ∧ e < n
def RP (p q : Nat) (a : Int) : Prop := (a = -1 ∧ ¬ fitN (p * q)) ∨ (a = -2 ∧ fitN (p * q) ∧ ¬ PQ p q) ∨ (a = -3 ∧ fitN (p * q) ∧ PQ p q ∧ Nat.gcd p q ≠ 1) ∨ (a = 0 ∧ fitN (p * q) ∧ PQ p q ∧ Nat.gcd p q = 1)
def RE (e n p q : Nat) (a : Int) : Prop := (a = -4 ∧ ¬ XE e n) ∨ (a = -5 ∧ XE e n ∧ ¬ (Nat.gcd e (p - 1) = 1 ∧ Nat.gcd e (q - 1) = 1)) ∨ (a = 0 ∧ XE e n ∧ Nat.gcd e (p - 1) = 1 ∧ Nat.gcd e (q - 1) = 1)
/-- the inverse of a by m -/
def inv (a m : Nat) : Nat := ((List.range m).find? (fun i => a * i % m == 1 % m)).getD 0
theorem inv_eq {a m i : Nat} (hg : Nat.gcd a m = 1) (hi : i < m) (h : a * i % m = 1 % m) : inv a m = i := by
  unfold inv
  cases hq : (List.range m).find? (fun i => a * i % m == 1 % m) with
  | none =>
    have := List.find?_eq_none.mp hq i (List.mem_range.mpr hi)
    simp [h] at this
  | some j =>
    have h1 := List.find?_some hq
    have h2 := List.mem_range.mp (List.mem_of_find?_eq_some hq)
    have h3 : a * j % m = 1 % m := by simpa using h1
    show j = i
    have h4 : a * j % m = a * i % m := h3.trans h.symm
    have hc : Nat.Coprime m a := by rw [Nat.coprime_iff_gcd_eq_one, Nat.gcd_comm]; exact hg
    rcases Nat.le_total i j with hij | hij
    · have h5 : m ∣ a * (j - i) := by
        rw [Nat.mul_sub]
        exact Nat.dvd_of_mod_eq_zero (Nat.sub_mod_eq_zero_of_mod_eq h4)
      have h6 := hc.dvd_of_dvd_mul_left h5
      have h7 : j - i = 0 := Nat.eq_zero_of_dvd_of_lt h6 (by omega)
      omega
    · have h5 : m ∣ a * (i - j) := by
        rw [Nat.mul_sub]
        exact Nat.dvd_of_mod_eq_zero (Nat.sub_mod_eq_zero_of_mod_eq h4.symm)
      have h6 := hc.dvd_of_dvd_mul_left h5
      have h7 : i - j = 0 := Nat.eq_zero_of_dvd_of_lt h6 (by omega)
      omega
/-- what calc reckons: a refusal or a number -/
def cal (what : Int) (a b c : Nat) : Int ⊕ Nat :=
  if what = 0 then .inr (a + b)
  else if what = 1 then (if a < b then .inl (-1) else .inr (a - b))
  else if what = 2 then .inr (a * b)
  else if what = 3 then (if b = 0 then .inl (-2) else .inr (a / b))
  else if what = 4 then (if b = 0 then .inl (-2) else .inr (a % b))
  else if what = 5 then .inr (Nat.gcd a b)
  else if what = 6 then .inr (Nat.lcm a b)
  else if what = 7 then (if b = 0 then .inl (-2) else if Nat.gcd a b = 1 then .inr (inv a b) else .inl (-3))
  else (if c = 0 then .inl (-2) else if 128 < nby c then .inl (-4) else .inr (a ^ b % c))
theorem nby_ge {v : Nat} (h : 2 ^ 2048 ≤ v) : 256 < nby v := by
  have h0 : v ≠ 0 := by
    intro e
    rw [e] at h
    exact absurd h (Nat.not_le.mpr (Nat.two_pow_pos 2048))
  have h1 := blen_lt v
  have h2 : 2048 < blen v := (Nat.pow_lt_pow_iff_right (a := 2) (by omega)).mp (Nat.lt_of_le_of_lt h h1)
  unfold nby
  omega
theorem mul_big {a b : Nat} (h : 2049 < blen a + blen b) (ha : a < 2 ^ 2048) (hb : b < 2 ^ 2048) : 2 ^ 2048 ≤ a * b := by
  have h1 := blen_le ha
  have h2 := blen_le hb
  have ha0 : a ≠ 0 := fun e => by rw [e, blen_0] at h; omega
  have hb0 : b ≠ 0 := fun e => by rw [e, blen_0] at h; omega
  have h3 := Nat.mul_le_mul (blen_ge ha0) (blen_ge hb0)
  rw [← Nat.pow_add] at h3
  exact Nat.le_trans (Nat.pow_le_pow_right (by omega) (by omega)) h3
theorem fitN_lt {n : Nat} (h : nby n ≤ 128) : n < 2 ^ 1024 := Nat.lt_of_lt_of_le (blen_lt n) (Nat.pow_le_pow_right (by omega) (by unfold nby at h; omega))
