/-! a number's digits from a place on -/
def win (σ : St) (o p : Nat) : Nat → Nat := fun j => (σ 3 o (p + j)).toNat
theorem win_lt {σ : St} {o : Nat} (h : WDg σ o) (p j : Nat) : win σ o p j < 268435456 := dg_lt h (p + j)
theorem win_su {σ : St} {o p m : Nat} {x : Int} : ∀ {n : Nat}, n ≤ m → vB 268435456 (win (su σ 3 o (p + m) x) o p) n = vB 268435456 (win σ o p) n := fun h => vB_congr (fun j hj => by show (su σ 3 o (p + m) x 3 o (p + j)).toNat = (σ 3 o (p + j)).toNat; rw [su_j (by omega)])
theorem win_suS {σ : St} {o p m : Nat} {x : Int} (hx : 0 ≤ x) : ((vB 268435456 (win (su σ 3 o (p + m) x) o p) (m + 1) : Nat) : Int) = ((vB 268435456 (win σ o p) m : Nat) : Int) + x * ((268435456 ^ m : Nat) : Int) := by
  rw [vB_suc, win_su (Nat.le_refl m)]
  show ((_ + (su σ 3 o (p + m) x 3 o (p + m)).toNat * 268435456 ^ m : Nat) : Int) = _
  rw [su_s, Int.natCast_add, Int.natCast_mul, Int.toNat_of_nonneg hx]
theorem win_suc {σ : St} {o p m : Nat} (h : WDg σ o) : ((vB 268435456 (win σ o p) (m + 1) : Nat) : Int) = ((vB 268435456 (win σ o p) m : Nat) : Int) + σ 3 o (p + m) * ((268435456 ^ m : Nat) : Int) := by
  rw [vB_suc, Int.natCast_add, Int.natCast_mul]
  show _ + ((σ 3 o (p + m)).toNat : Int) * _ = _
  rw [Int.toNat_of_nonneg (h _).1]
theorem take_step {X Y Z P Q d f s c q' r : Int} (h : X + c * P = Y - Q * Z) (hs : s = f - Q * d + c) (hq : s = r + q' * 268435456) : X + r * P + q' * (P * 268435456) = (Y + f * P) - Q * (Z + d * P) := by
  have e := carry_I (B := 268435456) (s := s) (d := f - Q * d) h hs hq
  rw [e, Int.sub_mul, Int.mul_add, Int.mul_assoc]
  omega
theorem put_step {X Y Z P d f s c q' r : Int} (h : X + c * P = Y + Z) (hs : s = f + d + c) (hq : s = r + q' * 268435456) : X + r * P + q' * (P * 268435456) = (Y + f * P) + (Z + d * P) := by
  have e := carry_I (B := 268435456) (s := s) (d := f + d) h hs hq
  rw [e, Int.add_mul]
  omega
