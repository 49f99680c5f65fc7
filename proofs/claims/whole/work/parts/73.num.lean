/-! the class's whole numbers: limbs of 16 bits -/
abbrev NN (σ : St) (i v : Nat) : Prop := nm 11 12 65536 270 σ i v
theorem n_p28 (n : Nat) : 65536 ^ n = 2 ^ (16 * n) := by rw [Nat.pow_mul]
section NDs
variable {σ : St} {i v u : Nat}
theorem n_dg_lt (hd : ∀ j, 0 ≤ σ 12 i j ∧ σ 12 i j < ((65536 : Nat) : Int)) (j : Nat) : (σ 12 i j).toNat < 65536 := by have := hd j; omega
theorem NN_0 (ht : 0 < u → σ 12 i (u - 1) ≠ 0) (hd : ∀ j, 0 ≤ σ 12 i j ∧ σ 12 i j < ((65536 : Nat) : Int)) (hv : vB 65536 (fun j => (σ 12 i j).toNat) u = v) : u = 0 ↔ v = 0 := by
  constructor
  · intro h; subst h; exact hv.symm
  · intro h
    rcases Nat.eq_zero_or_pos u with h0 | h0
    · exact h0
    · have h1 := vB_top (b := 65536) (f := fun j => (σ 12 i j).toNat) h0 (by have := ht h0; have := (hd (u - 1)).1; show (σ 12 i (u - 1)).toNat ≠ 0; omega)
      have h2 : 0 < 65536 ^ (u - 1) := Nat.pow_pos (by omega)
      omega
theorem NN_lo (hd : ∀ j, 0 ≤ σ 12 i j ∧ σ 12 i j < ((65536 : Nat) : Int)) (hv : vB 65536 (fun j => (σ 12 i j).toNat) u = v) (hu : 0 < u) : v % 65536 = (σ 12 i 0).toNat := by
  rw [← hv]
  exact vB_one (by omega) hu (fun j _ => n_dg_lt hd j)
theorem NN_1 (hv : vB 65536 (fun j => (σ 12 i j).toNat) 1 = v) : v = (σ 12 i 0).toNat := by
  rw [← hv]
  show 0 + (σ 12 i 0).toNat * 65536 ^ 0 = _
  rw [Nat.pow_zero]; omega
theorem NN_2 (ht : 0 < u → σ 12 i (u - 1) ≠ 0) (hd : ∀ j, 0 ≤ σ 12 i j ∧ σ 12 i j < ((65536 : Nat) : Int)) (hv : vB 65536 (fun j => (σ 12 i j).toNat) u = v) (h2 : 2 ≤ u) : 65536 ≤ v := by
  have h1 := vB_top (b := 65536) (f := fun j => (σ 12 i j).toNat) (n := u) (by omega) (by have := ht (by omega); have := (hd (u - 1)).1; show (σ 12 i (u - 1)).toNat ≠ 0; omega)
  have h3 : 65536 ^ 1 ≤ 65536 ^ (u - 1) := Nat.pow_le_pow_right (by omega) (by omega)
  omega
theorem NN_dig (hd : ∀ j, 0 ≤ σ 12 i j ∧ σ 12 i j < ((65536 : Nat) : Int)) (hv : vB 65536 (fun j => (σ 12 i j).toNat) u = v) (k : Nat) : (if k < u then σ 12 i k else 0) = ((v / 65536 ^ k % 65536 : Nat) : Int) := by
  rw [← hv]
  split
  · rw [vB_dig (by omega) (by assumption) (fun j _ => n_dg_lt hd j)]
    have := (hd k).1
    omega
  · rw [vB_digO (by omega) (by omega) (fun j _ => n_dg_lt hd j)]
    rfl
theorem NN_bl (ht : 0 < u → σ 12 i (u - 1) ≠ 0) (hd : ∀ j, 0 ≤ σ 12 i j ∧ σ 12 i j < ((65536 : Nat) : Int)) (hv : vB 65536 (fun j => (σ 12 i j).toNat) u = v) (hu : 0 < u) : blen v = (u - 1) * 16 + blen (σ 12 i (u - 1)).toNat := by
  obtain ⟨m, rfl⟩ : ∃ m, u = m + 1 := ⟨u - 1, by omega⟩
  rw [show m + 1 - 1 = m by omega] at *
  rw [← hv]
  show blen (vB 65536 (fun j => (σ 12 i j).toNat) m + (σ 12 i m).toNat * 65536 ^ m) = _
  rw [n_p28, blen_shift, Nat.mul_comm]
  · have := ht hu; have := (hd m).1; omega
  · rw [← n_p28]; exact vB_lt (fun j _ => n_dg_lt hd j)
end NDs
theorem n_bit_dig (v m : Nat) : v / 65536 ^ (m / 16) % 65536 / 2 ^ (m % 16) % 2 = v / 2 ^ m % 2 := by
  have e1 : m = 16 * (m / 16) + m % 16 := by omega
  have hlt : m % 16 < 16 := Nat.mod_lt _ (by omega)
  rw [n_p28]
  conv => rhs; rw [e1, Nat.pow_add, ← Nat.div_div_eq_div_mul]
  generalize v / 2 ^ (16 * (m / 16)) = x
  generalize m % 16 = r at hlt
  have e2 : 65536 = 2 ^ r * 2 ^ (16 - r) := by rw [← Nat.pow_add, show r + (16 - r) = 16 by omega]
  rw [e2, Nat.mod_mul_right_div_self]
  have e3 : 2 ^ (16 - r) = 2 * 2 ^ (15 - r) := by rw [show 16 - r = (15 - r) + 1 by omega, Nat.pow_succ, Nat.mul_comm]
  rw [e3, Nat.mod_mul_right_mod]
theorem NN.le {σ : St} {i v : Nat} (h : NN σ i v) : v < 2 ^ 4320 := by
  obtain ⟨u, -, h1, h2, -, h3⟩ := h
  have a := vB_lt (b := 65536) (f := fun j => (σ 12 i j).toNat) (n := u) (fun j _ => n_dg_lt h2 j)
  rw [h3, n_p28] at a
  exact Nat.lt_of_lt_of_le a (Nat.pow_le_pow_right (by omega) (by omega))

abbrev NDg (σ : St) (i : Nat) : Prop := ∀ j, 0 ≤ σ 12 i j ∧ σ 12 i j < ((65536 : Nat) : Int)
abbrev fN (σ : St) (i : Nat) : Nat → Nat := fun j => (σ 12 i j).toNat
theorem n_used_lt {σ : St} {i o u x v y : Nat} (hd : NDg σ i) (hv : vB 65536 (fN σ i) u = v) (hd2 : NDg σ o) (ht2 : 0 < x → σ 12 o (x - 1) ≠ 0) (hy : vB 65536 (fN σ o) x = y) (h : u < x) : v < y := by
  have h1 := vB_lt (b := 65536) (f := fN σ i) (n := u) (fun j _ => n_dg_lt hd j)
  have h2 := vB_top (b := 65536) (f := fN σ o) (n := x) (by omega) (by have := ht2 (by omega); have := (hd2 (x - 1)).1; show (σ 12 o (x - 1)).toNat ≠ 0; omega)
  have h3 : 65536 ^ u ≤ 65536 ^ (x - 1) := Nat.pow_le_pow_right (by omega) (by omega)
  omega
theorem n_dig_eq {σ : St} {i o : Nat} {n u v y : Nat} (hv : vB 65536 (fN σ i) u = v) (hy : vB 65536 (fN σ o) u = y) (hag : ∀ j, n ≤ j → j < u → σ 12 i j = σ 12 o j) (hn : n = 0) : v = y := by
  subst hn
  rw [← hv, ← hy]
  exact vB_congr (fun j hj => by show (σ 12 i j).toNat = (σ 12 o j).toNat; rw [hag j (by omega) hj])
theorem n_dig_lt {σ : St} {i o : Nat} {n u v y : Nat} (hd : NDg σ i) (hd2 : NDg σ o) (hv : vB 65536 (fN σ i) u = v) (hy : vB 65536 (fN σ o) u = y) (hag : ∀ j, n < j → j < u → σ 12 i j = σ 12 o j) (hn : n < u) (hl : σ 12 i n < σ 12 o n) : v < y := by
  rw [← hv, ← hy]
  refine vB_cmp (k := n) hn (fun j _ => n_dg_lt hd j) ?_ (fun j h1 h2 => by show (σ 12 i j).toNat = (σ 12 o j).toNat; rw [hag j h1 h2])
  show (σ 12 i n).toNat < (σ 12 o n).toNat
  have := (hd n).1; have := (hd2 n).1; omega
theorem n_trim_nm {σ : St} {i n t v : Nat} (hd : NDg σ i) (hn : n ≤ 270) (h1 : t ≤ n) (h2 : 0 < t → σ 12 i (t - 1) ≠ 0) (hz : ∀ j, t ≤ j → j < n → σ 12 i j = 0) (hv : vB 65536 (fN σ i) n = v) : NN (su σ 11 i 0 (t : Int)) i v := by
  have e : su σ 11 i 0 (t : Int) 12 = σ 12 := su_rc (by decide)
  refine ⟨t, su_s, by omega, by rw [e]; exact hd, by rw [e]; exact h2, ?_⟩
  rw [e, ← hv]
  exact (vB_zeros h1 (fun j a b => by show (σ 12 i j).toNat = 0; rw [hz j a b]; rfl)).symm
theorem NDg.su {σ : St} {i k : Nat} {v : Int} (h : NDg σ i) (hv : 0 ≤ v ∧ v < 65536) : NDg (su σ 12 i k v) i := by
  intro j
  rw [su_e]
  split
  · exact hv
  · exact h j
theorem NDg.fr {σ σ' : St} {i : Nat} {l : List (Nat × Nat)} (h : NDg σ i) (hf : Fr l σ σ') (h1 : (12, i) ∉ l) : NDg σ' i := by
  intro j
  rw [hf 12 i h1]
  exact h j
theorem NN.dg {σ : St} {i v : Nat} (h : NN σ i v) : NDg σ i := by obtain ⟨u, -, -, h1, -⟩ := h; exact h1
theorem n_vB_su {σ : St} {i m : Nat} {v : Int} : ∀ {n : Nat}, n ≤ m → vB 65536 (fN (su σ 12 i m v) i) n = vB 65536 (fN σ i) n := fun h => vB_congr (fun j hj => by show (su σ 12 i m v 12 i j).toNat = (σ 12 i j).toNat; rw [su_j (by omega)])
theorem n_vB_suS {σ : St} {i m : Nat} {v : Int} (hv : 0 ≤ v) : ((vB 65536 (fN (su σ 12 i m v) i) (m + 1) : Nat) : Int) = ((vB 65536 (fN σ i) m : Nat) : Int) + v * ((65536 ^ m : Nat) : Int) := by
  rw [vB_suc, n_vB_su (Nat.le_refl m)]
  show ((_ + (su σ 12 i m v 12 i m).toNat * 65536 ^ m : Nat) : Int) = _
  rw [su_s, Int.natCast_add, Int.natCast_mul, Int.toNat_of_nonneg hv]
theorem n_used_le {σ : St} {i v u k : Nat} (hd : NDg σ i) (ht : 0 < u → σ 12 i (u - 1) ≠ 0) (hv : vB 65536 (fN σ i) u = v) (h : v < 65536 ^ k) : u ≤ k := by
  rcases Nat.lt_or_ge k u with hk | hk
  · exfalso
    have h2 := vB_top (b := 65536) (f := fN σ i) (n := u) (by omega) (by have := ht (by omega); have := (hd (u - 1)).1; show (σ 12 i (u - 1)).toNat ≠ 0; omega)
    have h3 : 65536 ^ k ≤ 65536 ^ (u - 1) := Nat.pow_le_pow_right (by omega) (by omega)
    omega
  · exact hk
theorem n_used_lt_pow {σ : St} {i v u k : Nat} (hd : NDg σ i) (hv : vB 65536 (fN σ i) u = v) (h : u ≤ k) : v < 65536 ^ k := by
  have h1 := vB_lt (b := 65536) (f := fN σ i) (n := u) (fun j _ => n_dg_lt hd j)
  have h3 : 65536 ^ u ≤ 65536 ^ k := Nat.pow_le_pow_right (by omega) h
  omega
/-- digit j of v -/
def n_dgt (v j : Nat) : Nat := v / 65536 ^ j % 65536
theorem n_dgt_lt (v j : Nat) : n_dgt v j < 65536 := Nat.mod_lt _ (by omega)
theorem n_dgt_vB (v n : Nat) : vB 65536 (n_dgt v) n = v % 65536 ^ n := vB_of 65536 v (by omega) n
theorem n_dgt_suc (v n : Nat) : ((vB 65536 (n_dgt v) (n + 1) : Nat) : Int) = ((vB 65536 (n_dgt v) n : Nat) : Int) + (n_dgt v n : Int) * ((65536 ^ n : Nat) : Int) := by
  rw [vB_suc, Int.natCast_add, Int.natCast_mul]
theorem n_dgt_WN {σ : St} {i v u : Nat} (hd : NDg σ i) (hv : vB 65536 (fN σ i) u = v) (k : Nat) : (if k < u then σ 12 i k else 0) = (n_dgt v k : Int) := NN_dig hd hv k
theorem n_pS (m : Nat) : ((65536 ^ (m + 1) : Nat) : Int) = ((65536 ^ m : Nat) : Int) * 65536 := by rw [Nat.pow_succ, Int.natCast_mul]; rfl

theorem n_nm_top {σ : St} {i u z : Nat} (hd : NDg σ i) (hu : 0 < u) (hv : vB 65536 (fN σ i) u = z) (hz : 65536 ^ (u - 1) ≤ z) : σ 12 i (u - 1) ≠ 0 := by
  intro h
  obtain ⟨m, rfl⟩ : ∃ m, u = m + 1 := ⟨u - 1, by omega⟩
  rw [show m + 1 - 1 = m by omega] at h hz
  rw [vB_suc] at hv
  have e : fN σ i m = 0 := by show (σ 12 i m).toNat = 0; rw [h]; rfl
  rw [e, Nat.zero_mul] at hv
  have := vB_lt (b := 65536) (f := fN σ i) (n := m) (fun j _ => n_dg_lt hd j)
  omega
theorem NN.ge {σ : St} {i u v : Nat} (hd : NDg σ i) (ht : 0 < u → σ 12 i (u - 1) ≠ 0) (hv : vB 65536 (fN σ i) u = v) (hu : 0 < u) : 65536 ^ (u - 1) ≤ v := by
  rw [← hv]
  exact vB_top hu (by have := ht hu; have := (hd (u - 1)).1; show (σ 12 i (u - 1)).toNat ≠ 0; omega)
/-- the digits from m on as they were, those below with a carry out of m that is 0 -/
theorem n_vB_rest {f g : Nat → Nat} {m u : Nat} (hm : m ≤ u) (h : ∀ j, m ≤ j → j < u → f j = g j) {e : Nat} (he : vB 65536 f m = vB 65536 g m + e) : vB 65536 f u = vB 65536 g u + e := by
  obtain ⟨d, rfl⟩ := Nat.le.dest hm
  rw [vB_split, vB_split, vB_congr (f := fun j => f (m + j)) (g := fun j => g (m + j)) (fun j hj => h _ (by omega) (by omega))]
  omega
theorem n_dgt_all {v u : Nat} (h : v < 65536 ^ u) : vB 65536 (n_dgt v) u = v := by rw [n_dgt_vB, Nat.mod_eq_of_lt h]


theorem n_set0 {σ : St} {i : Nat} (h : NDg σ i) : NN (su σ 11 i 0 0) i 0 := ⟨0, su_s, by omega, fun j => by rw [su_c (by decide)]; exact h j, fun q => by omega, rfl⟩
theorem n_set1 {σ : St} {i x : Nat} (h : NDg σ i) (h0 : 0 < x) (hx : x < 65536) : NN (su (su (su σ 11 i 0 0) 12 i 0 ((x : Int) % 65536)) 11 i 0 (0 + 1)) i x := by
  refine ⟨1, su_s, by omega, fun j => ?_, fun _ => ?_, ?_⟩
  · rw [su_c (by decide), su_e]
    split
    · omega
    · rw [su_c (by decide)]; exact h j
  · rw [su_c (by decide), su_s]; omega
  · rw [vB_1]
    show (su (su (su σ 11 i 0 0) 12 i 0 ((x : Int) % 65536)) 11 i 0 (0 + 1) 12 i 0).toNat = x
    rw [su_c (by decide), su_s]; omega
theorem iI_and16 {a b : Nat} (ha : a < 65536) (hb : b < 65536) : iI (a : Int) &&& iI (b : Int) = iI ((a &&& b : Nat) : Int) := by
  have hx : a &&& b < 2 ^ 16 := Nat.and_lt_two_pow a (show b < 2 ^ 16 by omega)
  apply iI_ext
  rw [Int32.toBitVec_and, BitVec.toNat_and, iI_bv, iI_bv, iI_bv]
  rw [show ((b : Int) % 4294967296).toNat = b by omega, show ((a : Int) % 4294967296).toNat = a by omega]
  omega
theorem and_p2 {t m : Nat} (h : t < 2 ^ (m + 1)) : t &&& 2 ^ m = if t < 2 ^ m then 0 else 2 ^ m := by
  apply Nat.eq_of_testBit_eq
  intro j
  rw [Nat.testBit_and, Nat.testBit_two_pow]
  by_cases c : t < 2 ^ m
  · rw [if_pos c, Nat.zero_testBit]
    by_cases e : m = j
    · rw [← e, Nat.testBit_lt_two_pow c]
      rfl
    · rw [decide_eq_false e, Bool.and_false]
  · rw [if_neg c, Nat.testBit_two_pow]
    by_cases e : m = j
    · have h1 : t / 2 ^ m = 1 := by
        rw [Nat.div_eq_iff (Nat.two_pow_pos m)]
        rw [Nat.pow_succ] at h
        omega
      rw [← e, Nat.testBit_eq_decide_div_mod_eq, h1]
      rfl
    · rw [decide_eq_false e, Bool.and_false]
theorem NN.used {σ : St} {i u : Nat} {v : Nat} (hd : NDg σ i) (hv : vB 65536 (fN σ i) u = v) (hu : u ≤ 270) : v < 65536 ^ 270 := by
  have h1 := vB_lt (b := 65536) (f := fN σ i) (n := u) (fun j _ => n_dg_lt hd j)
  rw [hv] at h1
  exact Nat.lt_of_lt_of_le h1 (Nat.pow_le_pow_right (by omega) hu)
