/-! sums, and the product of two rows of digits -/
def sm (F : Nat → Nat) : Nat → Nat
  | 0 => 0
  | n + 1 => sm F n + F n
theorem sm_congr {F G : Nat → Nat} : ∀ {n : Nat}, (∀ j, j < n → F j = G j) → sm F n = sm G n
  | 0, _ => rfl
  | n + 1, h => by show sm F n + F n = sm G n + G n; rw [sm_congr (fun j hj => h j (by omega)), h n (by omega)]
theorem sm_add {F G : Nat → Nat} : ∀ {n : Nat}, sm (fun j => F j + G j) n = sm F n + sm G n
  | 0 => rfl
  | n + 1 => by show sm _ n + (F n + G n) = sm F n + F n + (sm G n + G n); rw [sm_add]; omega
theorem sm_mul {F : Nat → Nat} {a : Nat} : ∀ {n : Nat}, sm (fun j => F j * a) n = sm F n * a
  | 0 => by show 0 = 0 * a; omega
  | n + 1 => by show sm _ n + F n * a = (sm F n + F n) * a; rw [sm_mul, Nat.add_mul]
theorem sm_zero {F : Nat → Nat} {a : Nat} : ∀ {n : Nat}, a ≤ n → (∀ j, a ≤ j → j < n → F j = 0) → sm F n = sm F a
  | 0, h, _ => by rw [show a = 0 by omega]
  | n + 1, h, hz => by
    by_cases he : a = n + 1
    · rw [he]
    · show sm F n + F n = _
      rw [hz n (by omega) (by omega), sm_zero (by omega) (fun j a b => hz j a (by omega))]
      omega
theorem sm_none {F : Nat → Nat} {n : Nat} (h : ∀ j, j < n → F j = 0) : sm F n = 0 := (sm_zero (a := 0) (by omega) (fun j _ b => h j b)).trans rfl
def cv (f g : Nat → Nat) (k : Nat) : Nat := sm (fun i => f i * g (k - i)) (k + 1)
theorem cv_all {b : Nat} {f g : Nat → Nat} : ∀ n, vB b (cv f g) n = sm (fun i => f i * b ^ i * vB b g (n - i)) n
  | 0 => rfl
  | n + 1 => by
    show vB b (cv f g) n + cv f g n * b ^ n = sm (fun i => f i * b ^ i * vB b g (n + 1 - i)) n + f n * b ^ n * vB b g (n + 1 - n)
    rw [cv_all n]
    have e1 : sm (fun i => f i * b ^ i * vB b g (n + 1 - i)) n = sm (fun i => f i * b ^ i * vB b g (n - i)) n + sm (fun i => f i * g (n - i)) n * b ^ n := by
      rw [← sm_mul, ← sm_add]
      apply sm_congr
      intro j hj
      rw [show n + 1 - j = (n - j) + 1 by omega, vB_suc, Nat.mul_add]
      have e : b ^ n = b ^ j * b ^ (n - j) := by rw [← Nat.pow_add, show j + (n - j) = n by omega]
      rw [e, Nat.mul_assoc (f j) (b ^ j) (g (n - j) * b ^ (n - j)), Nat.mul_left_comm (b ^ j), Nat.mul_assoc (f j), Nat.mul_assoc (f j)]
    have e2 : cv f g n = sm (fun i => f i * g (n - i)) n + f n * g 0 := by show sm _ n + f n * g (n - n) = _; rw [Nat.sub_self]
    have e3 : vB b g (n + 1 - n) = g 0 := by rw [show n + 1 - n = 1 by omega, vB_1]
    rw [e1, e2, e3, Nat.add_mul, Nat.mul_right_comm (f n)]
    omega
theorem cv_prod {b : Nat} {f g : Nat → Nat} {u x n : Nat} (hf : ∀ j, u ≤ j → f j = 0) (hg : ∀ j, x ≤ j → g j = 0) (hu : 0 < u) (hx : 0 < x) (hn : u + x ≤ n + 1) : vB b (cv f g) n = vB b f u * vB b g x := by
  rw [cv_all]
  have e1 : sm (fun i => f i * b ^ i * vB b g (n - i)) n = sm (fun i => f i * b ^ i * vB b g (n - i)) u := by
    apply sm_zero (by omega)
    intro j a _
    rw [hf j a, Nat.zero_mul, Nat.zero_mul]
  have e2 : sm (fun i => f i * b ^ i * vB b g (n - i)) u = sm (fun i => f i * b ^ i * vB b g x) u := by
    apply sm_congr
    intro j hj
    rw [vB_zeros (u := x) (n := n - j) (by omega) (fun q a _ => hg q a)]
  have e3 : ∀ m, sm (fun i => f i * b ^ i) m = vB b f m := by
    intro m
    induction m with
    | zero => rfl
    | succ m ih => show sm _ m + f m * b ^ m = vB b f m + f m * b ^ m; rw [ih]
  rw [e1, e2, sm_mul, e3]
theorem dgt_0 {v u j : Nat} (h : v < 268435456 ^ u) (hj : u ≤ j) : dgt v j = 0 := by
  unfold dgt
  rw [Nat.div_eq_of_lt (Nat.lt_of_lt_of_le h (Nat.pow_le_pow_right (by omega) hj)), Nat.zero_mod]
theorem mul_bound {a b : Nat} (ha : a < 268435456) (hb : b < 268435456) : a * b ≤ 72057594037927936 := Nat.le_of_lt (Nat.mul_lt_mul'' ha hb)
theorem top_lt {c V n p : Nat} (h : V + c * 268435456 ^ n = p) (hp : p < 268435456 ^ (n + 1)) : c < 268435456 := by
  rcases Nat.lt_or_ge c 268435456 with h1 | h1
  · exact h1
  · exfalso
    have : 268435456 * 268435456 ^ n ≤ c * 268435456 ^ n := Nat.mul_le_mul_right _ h1
    rw [Nat.pow_succ, Nat.mul_comm] at hp
    omega
