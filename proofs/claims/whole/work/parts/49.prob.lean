/-- the bases by which a number is tried -/
def bs (k : Nat) : Nat := ((sT 0).getD k 0).toNat
theorem bs_e {k : Nat} (h : k < 12) : (sT 0).getD k 0 = (bs k : Int) := by
  have : ∀ j, j < 12 → (sT 0).getD j 0 = ((((sT 0).getD j 0).toNat : Nat) : Int) := by decide
  exact this k h
theorem bs_r {k : Nat} (h : k < 12) : 2 ≤ bs k ∧ bs k ≤ 37 := by
  have : ∀ j, j < 12 → 2 ≤ ((sT 0).getD j 0).toNat ∧ ((sT 0).getD j 0).toNat ≤ 37 := by decide
  exact this k h
/-- a base witnesses for n, where n - 1 is d times 2 ^ s -/
def wit (n d s b : Nat) : Prop := b ^ d % n = 1 ∨ ∃ i, i < s ∧ b ^ (d * 2 ^ i) % n = n - 1
def prob (n : Nat) : Prop := (∃ k, k < 12 ∧ n = bs k) ∨ (37 < n ∧ n % 2 = 1 ∧ ∃ d s, n - 1 = d * 2 ^ s ∧ d % 2 = 1 ∧ ∀ k, k < 12 → wit n d s (bs k))
/-- probable, as the document has it: at most 64 bytes -/
def PB (n : Nat) : Prop := n < 2 ^ 512 ∧ prob n
theorem tw_u {d s d' s' : Nat} (h : d * 2 ^ s = d' * 2 ^ s') (hd : d % 2 = 1) (hd' : d' % 2 = 1) : d = d' ∧ s = s' := by
  induction s generalizing s' with
  | zero =>
    cases s' with
    | zero => omega
    | succ j =>
      rw [Nat.pow_zero, Nat.mul_one, Nat.pow_succ, ← Nat.mul_assoc] at h
      omega
  | succ i ih =>
    cases s' with
    | zero =>
      rw [Nat.pow_zero, Nat.mul_one, Nat.pow_succ, ← Nat.mul_assoc] at h
      omega
    | succ j =>
      rw [Nat.pow_succ, Nat.pow_succ, ← Nat.mul_assoc, ← Nat.mul_assoc] at h
      have := ih (s' := j) (by omega)
      omega
theorem prob_of {n d s : Nat} (h37 : 37 < n) (ho : n % 2 = 1) (hs : n - 1 = d * 2 ^ s) (hd : d % 2 = 1) : prob n ↔ ∀ k, k < 12 → wit n d s (bs k) := by
  constructor
  · rintro (⟨k, hk, e⟩ | ⟨_, _, d', s', h1, h2, h3⟩)
    · have := bs_r hk
      omega
    · obtain ⟨e1, e2⟩ := tw_u (hs.symm.trans h1) hd h2
      subst e1; subst e2
      exact h3
  · intro h
    exact Or.inr ⟨h37, ho, d, s, hs, hd, h⟩
/-- a base that divides n does not witness -/
theorem wit_dvd {n d s b : Nat} (hb : 2 ≤ b) (hn : b < n) (hd : b ∣ n) (hd0 : d ≠ 0) : ¬ wit n d s b := by
  have key : ∀ e, e ≠ 0 → b ∣ b ^ e % n := fun e he => (Nat.dvd_mod_iff hd).mpr (Nat.dvd_trans ⟨1, by rw [Nat.pow_one, Nat.mul_one]⟩ (Nat.pow_dvd_pow b (show 1 ≤ e by omega)))
  rintro (h | ⟨i, hi, h⟩)
  · have := key d hd0
    rw [h] at this
    have := Nat.le_of_dvd (by omega) this
    omega
  · have := key (d * 2 ^ i) (Nat.mul_ne_zero hd0 (by have := Nat.two_pow_pos i; omega))
    rw [h] at this
    have h2 := Nat.dvd_sub hd this
    have := Nat.le_of_dvd (by omega) h2
    omega
theorem prob_dvd {n k : Nat} (h37 : 37 < n) (hk : k < 12) (hd : n % bs k = 0) : ¬ prob n := by
  have hr := bs_r hk
  rintro (⟨j, hj, e⟩ | ⟨_, _, d, s, h1, h2, h3⟩)
  · have := bs_r hj
    omega
  · exact wit_dvd (d := d) (s := s) (by omega) (by omega) (Nat.dvd_of_mod_eq_zero hd) (by omega) (h3 k hk)
theorem prob_small {n : Nat} (h : n ≤ 37) : prob n ↔ ∃ k, k < 12 ∧ n = bs k := by
  constructor
  · rintro (h1 | ⟨h2, _⟩)
    · exact h1
    · omega
  · exact Or.inl
theorem zb_mod {m t : Nat} (h : ∀ j, j < t → m / 2 ^ j % 2 = 0) : m % 2 ^ t = 0 := by
  induction t with
  | zero => rw [Nat.pow_zero, Nat.mod_one]
  | succ t ih =>
    have h1 := ih (fun j hj => h j (by omega))
    have h2 := h t (by omega)
    rw [Nat.pow_succ, Nat.mod_mul, h1, h2]; rfl
theorem sq_pow {b d k n : Nat} : b ^ (d * 2 ^ k) % n * (b ^ (d * 2 ^ k) % n) % n = b ^ (d * 2 ^ (k + 1)) % n := by
  rw [← Nat.mul_mod, ← Nat.pow_add]
  congr 2
  rw [Nat.pow_succ, ← Nat.mul_assoc]; omega
theorem AD.pow {σ σ' : St} {r v : Nat} {l : List (Nat × Nat)} (h : AD σ) (g : WN σ' r v) (g7 : WDg σ' 7) (g8 : WDg σ' 8) (g10 : WDg σ' 10) (g11 : WDg σ' 11) (g12 : WDg σ' 12) (f : Fr l σ σ') (hl : ∀ q, (3, q) ∈ l → q = 7 ∨ q = 8 ∨ q = 10 ∨ q = 11 ∨ q = 12 ∨ q = r) : AD σ' := by
  refine h.of f (fun q hq => ?_)
  rcases hl q hq with e | e | e | e | e | e <;> subst e <;> first | assumption | exact WN.dg g
theorem blen8 {n : Nat} : (blen n + 7) / 8 ≤ 64 ↔ n < 2 ^ 512 := by
  constructor
  · intro h
    exact Nat.lt_of_lt_of_le (blen_lt n) (Nat.pow_le_pow_right (by omega) (by omega))
  · intro h
    have := blen_le h
    omega
