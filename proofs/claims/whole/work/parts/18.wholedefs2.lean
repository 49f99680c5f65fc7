abbrev WDg (σ : St) (i : Nat) : Prop := ∀ j, 0 ≤ σ 3 i j ∧ σ 3 i j < ((268435456 : Nat) : Int)
abbrev fW (σ : St) (i : Nat) : Nat → Nat := fun j => (σ 3 i j).toNat
theorem used_lt {σ : St} {i o u x v y : Nat} (hd : WDg σ i) (hv : vB 268435456 (fW σ i) u = v) (hd2 : WDg σ o) (ht2 : 0 < x → σ 3 o (x - 1) ≠ 0) (hy : vB 268435456 (fW σ o) x = y) (h : u < x) : v < y := by
  have h1 := vB_lt (b := 268435456) (f := fW σ i) (n := u) (fun j _ => dg_lt hd j)
  have h2 := vB_top (b := 268435456) (f := fW σ o) (n := x) (by omega) (by have := ht2 (by omega); have := (hd2 (x - 1)).1; show (σ 3 o (x - 1)).toNat ≠ 0; omega)
  have h3 : 268435456 ^ u ≤ 268435456 ^ (x - 1) := Nat.pow_le_pow_right (by omega) (by omega)
  omega
theorem dig_eq {σ : St} {i o : Nat} {n u v y : Nat} (hv : vB 268435456 (fW σ i) u = v) (hy : vB 268435456 (fW σ o) u = y) (hag : ∀ j, n ≤ j → j < u → σ 3 i j = σ 3 o j) (hn : n = 0) : v = y := by
  subst hn
  rw [← hv, ← hy]
  exact vB_congr (fun j hj => by show (σ 3 i j).toNat = (σ 3 o j).toNat; rw [hag j (by omega) hj])
theorem dig_lt {σ : St} {i o : Nat} {n u v y : Nat} (hd : WDg σ i) (hd2 : WDg σ o) (hv : vB 268435456 (fW σ i) u = v) (hy : vB 268435456 (fW σ o) u = y) (hag : ∀ j, n < j → j < u → σ 3 i j = σ 3 o j) (hn : n < u) (hl : σ 3 i n < σ 3 o n) : v < y := by
  rw [← hv, ← hy]
  refine vB_cmp (k := n) hn (fun j _ => dg_lt hd j) ?_ (fun j h1 h2 => by show (σ 3 i j).toNat = (σ 3 o j).toNat; rw [hag j h1 h2])
  show (σ 3 i n).toNat < (σ 3 o n).toNat
  have := (hd n).1; have := (hd2 n).1; omega
theorem trim_nm {σ : St} {i n t v : Nat} (hd : WDg σ i) (hn : n ≤ 80) (h1 : t ≤ n) (h2 : 0 < t → σ 3 i (t - 1) ≠ 0) (hz : ∀ j, t ≤ j → j < n → σ 3 i j = 0) (hv : vB 268435456 (fW σ i) n = v) : WN (su σ 2 i 0 (t : Int)) i v := by
  have e : su σ 2 i 0 (t : Int) 3 = σ 3 := su_rc (by decide)
  refine ⟨t, su_s, by omega, by rw [e]; exact hd, by rw [e]; exact h2, ?_⟩
  rw [e, ← hv]
  exact (vB_zeros h1 (fun j a b => by show (σ 3 i j).toNat = 0; rw [hz j a b]; rfl)).symm
theorem WDg.su {σ : St} {i k : Nat} {v : Int} (h : WDg σ i) (hv : 0 ≤ v ∧ v < 268435456) : WDg (su σ 3 i k v) i := by
  intro j
  rw [su_e]
  split
  · exact hv
  · exact h j
theorem WDg.fr {σ σ' : St} {i : Nat} {l : List (Nat × Nat)} (h : WDg σ i) (hf : Fr l σ σ') (h1 : (3, i) ∉ l) : WDg σ' i := by
  intro j
  rw [hf 3 i h1]
  exact h j
theorem WN.dg {σ : St} {i v : Nat} (h : WN σ i v) : WDg σ i := by obtain ⟨u, -, -, h1, -⟩ := h; exact h1
theorem vB_1 {b : Nat} {f : Nat → Nat} : vB b f 1 = f 0 := by
  show 0 + f 0 * b ^ 0 = f 0
  rw [Nat.pow_zero]; omega
theorem Fr.at {l : List (Nat × Nat)} {σ σ' : St} (h : Fr l σ σ') {c i : Nat} (hc : (c, i) ∉ l) (j : Nat) : σ' c i j = σ c i j := by rw [h c i hc]
