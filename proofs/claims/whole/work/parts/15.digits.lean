/-! digits in a base -/
def vB (b : Nat) (f : Nat → Nat) : Nat → Nat
  | 0 => 0
  | n + 1 => vB b f n + f n * b ^ n
theorem vB_congr {b : Nat} {f g : Nat → Nat} : ∀ {n : Nat}, (∀ j, j < n → f j = g j) → vB b f n = vB b g n
  | 0, _ => rfl
  | n + 1, h => by
    show vB b f n + f n * b ^ n = vB b g n + g n * b ^ n
    rw [vB_congr (fun j hj => h j (by omega)), h n (by omega)]
theorem vB_lt {b : Nat} {f : Nat → Nat} : ∀ {n : Nat}, (∀ j, j < n → f j < b) → vB b f n < b ^ n
  | 0, _ => by show 0 < 1; omega
  | n + 1, h => by
    show vB b f n + f n * b ^ n < b ^ (n + 1)
    have h1 := vB_lt (b := b) (f := f) (n := n) (fun j hj => h j (by omega))
    have h2 : f n + 1 ≤ b := h n (by omega)
    have h3 : (f n + 1) * b ^ n ≤ b * b ^ n := Nat.mul_le_mul_right _ h2
    rw [Nat.pow_succ, Nat.mul_comm (b ^ n) b]
    rw [Nat.add_mul, Nat.one_mul] at h3
    omega
theorem vB_zeros {b : Nat} {f : Nat → Nat} {u : Nat} : ∀ {n : Nat}, u ≤ n → (∀ j, u ≤ j → j < n → f j = 0) → vB b f n = vB b f u
  | 0, h, _ => by rw [show u = 0 by omega]
  | n + 1, h, hz => by
    by_cases hu : u = n + 1
    · rw [hu]
    · show vB b f n + f n * b ^ n = _
      rw [hz n (by omega) (by omega), Nat.zero_mul, Nat.add_zero]
      exact vB_zeros (by omega) (fun j h1 h2 => hz j h1 (by omega))
theorem vB_split {b : Nat} {f : Nat → Nat} {k : Nat} : ∀ (n : Nat), vB b f (k + n) = vB b f k + vB b (fun j => f (k + j)) n * b ^ k
  | 0 => by show vB b f k = vB b f k + 0 * b ^ k; omega
  | n + 1 => by
    show vB b f (k + n) + f (k + n) * b ^ (k + n) = vB b f k + (vB b (fun j => f (k + j)) n + f (k + n) * b ^ n) * b ^ k
    rw [vB_split n, Nat.add_mul, Nat.pow_add, Nat.mul_assoc, Nat.mul_comm (b ^ k) (b ^ n), Nat.add_assoc]
theorem vB_mod {b : Nat} {f : Nat → Nat} {k n : Nat} (hk : k ≤ n) (h : ∀ j, j < n → f j < b) : vB b f n % b ^ k = vB b f k := by
  obtain ⟨d, rfl⟩ := Nat.le.dest hk
  rw [vB_split, Nat.add_mul_mod_self_right]
  exact Nat.mod_eq_of_lt (vB_lt (fun j hj => h j (by omega)))
theorem vB_div {b : Nat} (hb : 0 < b) {f : Nat → Nat} {k n : Nat} (hk : k ≤ n) (h : ∀ j, j < n → f j < b) : vB b f n / b ^ k = vB b (fun j => f (k + j)) (n - k) := by
  obtain ⟨d, rfl⟩ := Nat.le.dest hk
  have hp : 0 < b ^ k := Nat.pow_pos hb
  rw [vB_split, Nat.add_mul_div_right _ _ hp, Nat.div_eq_of_lt (vB_lt (fun j hj => h j (by omega))), Nat.zero_add, show k + d - k = d by omega]
theorem vB_one {b : Nat} {f : Nat → Nat} {n : Nat} (hb : 0 < b) (hn : 0 < n) (h : ∀ j, j < n → f j < b) : vB b f n % b = f 0 := by
  have := vB_mod (b := b) (f := f) (k := 1) (n := n) (by omega) h
  rw [Nat.pow_one] at this
  rw [this]
  show 0 + f 0 * b ^ 0 = f 0
  rw [Nat.pow_zero]; omega
theorem vB_dig {b : Nat} (hb : 0 < b) {f : Nat → Nat} {k n : Nat} (hk : k < n) (h : ∀ j, j < n → f j < b) : vB b f n / b ^ k % b = f k := by
  rw [vB_div hb (by omega) h, vB_one hb (by omega) (fun j hj => h _ (by omega)), Nat.add_zero]
theorem vB_digO {b : Nat} {f : Nat → Nat} {k n : Nat} (hb : 0 < b) (hk : n ≤ k) (h : ∀ j, j < n → f j < b) : vB b f n / b ^ k % b = 0 := by
  have h1 := vB_lt h
  have h2 : b ^ n ≤ b ^ k := Nat.pow_le_pow_right hb hk
  rw [Nat.div_eq_of_lt (by omega), Nat.zero_mod]
theorem vB_top {b : Nat} {f : Nat → Nat} {n : Nat} (hn : 0 < n) (ht : f (n - 1) ≠ 0) : b ^ (n - 1) ≤ vB b f n := by
  obtain ⟨m, rfl⟩ : ∃ m, n = m + 1 := ⟨n - 1, by omega⟩
  rw [show m + 1 - 1 = m by omega] at ht ⊢
  show b ^ m ≤ vB b f m + f m * b ^ m
  have : 1 * b ^ m ≤ f m * b ^ m := Nat.mul_le_mul_right _ (by omega)
  omega
/-- the higher digit decides -/
theorem vB_cmp {b : Nat} {f g : Nat → Nat} {k n : Nat} (hk : k < n) (hf : ∀ j, j < n → f j < b) (hfg : f k < g k) (ha : ∀ j, k < j → j < n → f j = g j) : vB b f n < vB b g n := by
  obtain ⟨d, rfl⟩ := Nat.le.dest (show k + 1 ≤ n from hk)
  rw [vB_split (f := f) (k := k + 1) d, vB_split (f := g) (k := k + 1) d]
  rw [vB_congr (b := b) (f := fun j => f (k + 1 + j)) (g := fun j => g (k + 1 + j)) (n := d) (fun j hj => ha _ (by omega) (by omega))]
  have h1 : vB b f k < b ^ k := vB_lt (fun j hj => hf j (by omega))
  have h2 : vB b f (k + 1) = vB b f k + f k * b ^ k := rfl
  have h3 : vB b g (k + 1) = vB b g k + g k * b ^ k := rfl
  have h4 : (f k + 1) * b ^ k ≤ g k * b ^ k := Nat.mul_le_mul_right _ (by omega)
  rw [Nat.add_mul, Nat.one_mul] at h4
  omega
/-- the bits of a number -/
def blen (v : Nat) : Nat := if v = 0 then 0 else v.log2 + 1
theorem blen_0 : blen 0 = 0 := rfl
theorem blen_of {v k : Nat} (h1 : 2 ^ k ≤ v) (h2 : v < 2 ^ (k + 1)) : blen v = k + 1 := by
  have h0 : v ≠ 0 := by have := Nat.two_pow_pos k; omega
  unfold blen
  rw [if_neg h0, (Nat.log2_eq_iff h0).mpr ⟨h1, h2⟩]
theorem blen_lt (v : Nat) : v < 2 ^ blen v := by
  unfold blen
  split
  · subst v; exact Nat.two_pow_pos 0
  · exact Nat.lt_log2_self
theorem blen_ge {v : Nat} (h : v ≠ 0) : 2 ^ (blen v - 1) ≤ v := by
  unfold blen
  rw [if_neg h]
  exact Nat.log2_self_le h
theorem blen_le {v k : Nat} (h : v < 2 ^ k) : blen v ≤ k := by
  unfold blen
  split
  · omega
  · rename_i h0
    have := (Nat.log2_lt h0).mpr h
    omega
theorem blen_pos {v : Nat} (h : v ≠ 0) : 0 < blen v := by unfold blen; rw [if_neg h]; omega
theorem blen_mono {a b : Nat} (h : a ≤ b) : blen a ≤ blen b := blen_le (Nat.lt_of_le_of_lt h (blen_lt b))
theorem blen_shift {v t e : Nat} (ht : t ≠ 0) (hv : v < 2 ^ e) : blen (v + t * 2 ^ e) = e + blen t := by
  have h1 := blen_lt t
  have h2 := blen_ge ht
  have h3 := blen_pos ht
  obtain ⟨n, hn⟩ : ∃ n, blen t = n + 1 := ⟨blen t - 1, by omega⟩
  rw [hn] at h1 h2 ⊢
  rw [show n + 1 - 1 = n by omega] at h2
  have a1 : 2 ^ n * 2 ^ e ≤ t * 2 ^ e := Nat.mul_le_mul_right _ h2
  have a2 : (t + 1) * 2 ^ e ≤ 2 ^ (n + 1) * 2 ^ e := Nat.mul_le_mul_right _ h1
  rw [Nat.add_mul, Nat.one_mul] at a2
  rw [← Nat.pow_add] at a1 a2
  rw [show e + (n + 1) = (n + e) + 1 by omega]
  refine blen_of (by omega) ?_
  rw [show n + e + 1 = n + 1 + e by omega]
  omega
/-- the components and indices that may differ -/
def Fr (l : List (Nat × Nat)) (σ σ' : St) : Prop := ∀ c i, (c, i) ∉ l → σ' c i = σ c i
theorem Fr.rf {l : List (Nat × Nat)} {σ : St} : Fr l σ σ := fun _ _ _ => rfl
theorem Fr.tr {l m : List (Nat × Nat)} {σ σ1 σ2 : St} (h : Fr l σ σ1) (g : Fr m σ1 σ2) : Fr (l ++ m) σ σ2 := fun c i hc => (g c i (fun q => hc (List.mem_append_right _ q))).trans (h c i (fun q => hc (List.mem_append_left _ q)))
theorem Fr.mono {l m : List (Nat × Nat)} {σ σ1 : St} (h : Fr l σ σ1) (hs : ∀ q ∈ l, q ∈ m) : Fr m σ σ1 := fun c i hc => h c i (fun q => hc (hs _ q))
theorem Fr.tr' {l : List (Nat × Nat)} {σ σ1 σ2 : St} (h : Fr l σ σ1) (g : Fr l σ1 σ2) : Fr l σ σ2 := fun c i hc => (g c i hc).trans (h c i hc)
theorem Fr.su {l : List (Nat × Nat)} {σ : St} {c i j : Nat} {v : Int} (h : (c, i) ∈ l) : Fr l σ (su σ c i j v) := by
  intro c' i' hc
  funext j'
  by_cases hcc : c' = c
  · by_cases hii : i' = i
    · subst hcc; subst hii; exact absurd h hc
    · exact su_i hii
  · exact su_c hcc
/-- a number in base b: how many digits by component cu, the digits by component cd -/
def nm (cu cd b cap : Nat) (σ : St) (i v : Nat) : Prop := ∃ u : Nat, σ cu i 0 = (u : Int) ∧ u ≤ cap ∧ (∀ j, 0 ≤ σ cd i j ∧ σ cd i j < (b : Int)) ∧ (0 < u → σ cd i (u - 1) ≠ 0) ∧ vB b (fun j => (σ cd i j).toNat) u = v
theorem nm.fr {cu cd b cap : Nat} {σ σ' : St} {i v : Nat} {l : List (Nat × Nat)} (h : nm cu cd b cap σ i v) (hf : Fr l σ σ') (h1 : (cu, i) ∉ l) (h2 : (cd, i) ∉ l) : nm cu cd b cap σ' i v := by
  obtain ⟨u, a, b', c, d, e⟩ := h
  have e1 := hf cu i h1
  have e2 := hf cd i h2
  exact ⟨u, by rw [e1]; exact a, b', by rw [e2]; exact c, by rw [e2]; exact d, by rw [e2]; exact e⟩
