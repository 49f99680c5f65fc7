theorem carry_I {X Y P B s q r d c : Int} (h : X + c * P = Y) (hs : s = d + c) (hq : s = r + q * B) : X + r * P + q * (P * B) = Y + d * P := by
  have e1 : (r + q * B) * P = (d + c) * P := by rw [← hq, hs]
  rw [Int.add_mul, Int.add_mul] at e1
  have e2 : q * B * P = q * (P * B) := by rw [Int.mul_assoc, Int.mul_comm B P]
  omega
theorem vB_of (b v : Nat) (hb : 0 < b) : ∀ n, vB b (fun j => v / b ^ j % b) n = v % b ^ n
  | 0 => by rw [Nat.pow_zero, Nat.mod_one]; rfl
  | n + 1 => by
    show vB b (fun j => v / b ^ j % b) n + v / b ^ n % b * b ^ n = v % b ^ (n + 1)
    rw [vB_of b v hb n, Nat.pow_succ, Nat.mod_mul, Nat.mul_comm (b ^ n)]
theorem vB_suc {b : Nat} {f : Nat → Nat} {n : Nat} : vB b f (n + 1) = vB b f n + f n * b ^ n := rfl
theorem vB_su {σ : St} {i m : Nat} {v : Int} : ∀ {n : Nat}, n ≤ m → vB 268435456 (fW (su σ 3 i m v) i) n = vB 268435456 (fW σ i) n := fun h => vB_congr (fun j hj => by show (su σ 3 i m v 3 i j).toNat = (σ 3 i j).toNat; rw [su_j (by omega)])
theorem vB_suS {σ : St} {i m : Nat} {v : Int} (hv : 0 ≤ v) : ((vB 268435456 (fW (su σ 3 i m v) i) (m + 1) : Nat) : Int) = ((vB 268435456 (fW σ i) m : Nat) : Int) + v * ((268435456 ^ m : Nat) : Int) := by
  rw [vB_suc, vB_su (Nat.le_refl m)]
  show ((_ + (su σ 3 i m v 3 i m).toNat * 268435456 ^ m : Nat) : Int) = _
  rw [su_s, Int.natCast_add, Int.natCast_mul, Int.toNat_of_nonneg hv]
theorem used_le {σ : St} {i v u k : Nat} (hd : WDg σ i) (ht : 0 < u → σ 3 i (u - 1) ≠ 0) (hv : vB 268435456 (fW σ i) u = v) (h : v < 268435456 ^ k) : u ≤ k := by
  rcases Nat.lt_or_ge k u with hk | hk
  · exfalso
    have h2 := vB_top (b := 268435456) (f := fW σ i) (n := u) (by omega) (by have := ht (by omega); have := (hd (u - 1)).1; show (σ 3 i (u - 1)).toNat ≠ 0; omega)
    have h3 : 268435456 ^ k ≤ 268435456 ^ (u - 1) := Nat.pow_le_pow_right (by omega) (by omega)
    omega
  · exact hk
theorem used_lt_pow {σ : St} {i v u k : Nat} (hd : WDg σ i) (hv : vB 268435456 (fW σ i) u = v) (h : u ≤ k) : v < 268435456 ^ k := by
  have h1 := vB_lt (b := 268435456) (f := fW σ i) (n := u) (fun j _ => dg_lt hd j)
  have h3 : 268435456 ^ u ≤ 268435456 ^ k := Nat.pow_le_pow_right (by omega) h
  omega
/-- digit j of v -/
def dgt (v j : Nat) : Nat := v / 268435456 ^ j % 268435456
theorem dgt_lt (v j : Nat) : dgt v j < 268435456 := Nat.mod_lt _ (by omega)
theorem dgt_vB (v n : Nat) : vB 268435456 (dgt v) n = v % 268435456 ^ n := vB_of 268435456 v (by omega) n
theorem dgt_suc (v n : Nat) : ((vB 268435456 (dgt v) (n + 1) : Nat) : Int) = ((vB 268435456 (dgt v) n : Nat) : Int) + (dgt v n : Int) * ((268435456 ^ n : Nat) : Int) := by
  rw [vB_suc, Int.natCast_add, Int.natCast_mul]
theorem dgt_WN {σ : St} {i v u : Nat} (hd : WDg σ i) (hv : vB 268435456 (fW σ i) u = v) (k : Nat) : (if k < u then σ 3 i k else 0) = (dgt v k : Int) := WN_dig hd hv k
theorem pS (m : Nat) : ((268435456 ^ (m + 1) : Nat) : Int) = ((268435456 ^ m : Nat) : Int) * 268435456 := by rw [Nat.pow_succ, Int.natCast_mul]; rfl
