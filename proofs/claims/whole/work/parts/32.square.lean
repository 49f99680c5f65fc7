theorem sm_split {F : Nat → Nat} {a : Nat} : ∀ {n : Nat}, sm F (a + n) = sm F a + sm (fun j => F (a + j)) n
  | 0 => rfl
  | n + 1 => by show sm F (a + n) + F (a + n) = sm F a + (sm _ n + F (a + n)); rw [sm_split]; omega
theorem sm_first {F : Nat → Nat} : ∀ {n : Nat}, sm F (n + 1) = F 0 + sm (fun j => F (j + 1)) n
  | 0 => by show 0 + F 0 = F 0 + 0; omega
  | n + 1 => by show sm F (n + 1) + F (n + 1) = F 0 + (sm _ n + F (n + 1)); rw [sm_first]; omega
theorem sm_rev : ∀ {n : Nat} {F : Nat → Nat}, sm (fun j => F (n - 1 - j)) n = sm F n
  | 0, _ => rfl
  | n + 1, F => by
    rw [sm_first]
    show F (n + 1 - 1 - 0) + sm (fun j => F (n + 1 - 1 - (j + 1))) n = sm F n + F n
    rw [sm_congr (F := fun j => F (n + 1 - 1 - (j + 1))) (G := fun j => F (n - 1 - j)) (fun j hj => by show F _ = F _; congr 1; omega), sm_rev, show n + 1 - 1 - 0 = n by omega]
    omega
theorem cv_sq (f : Nat → Nat) (k : Nat) : cv f f k = 2 * sm (fun q => f q * f (k - q)) ((k + 1) / 2) + (if k % 2 = 0 then f (k / 2) * f (k / 2) else 0) := by
  unfold cv
  generalize hF : (fun q => f q * f (k - q)) = F
  have hsym : ∀ j, j ≤ k → F j = F (k - j) := by
    intro j hj
    rw [← hF]
    show f j * f (k - j) = f (k - j) * f (k - (k - j))
    rw [show k - (k - j) = j by omega, Nat.mul_comm]
  by_cases hk : k % 2 = 0
  · rw [if_pos hk]
    have e : k + 1 = (k + 1) / 2 + 1 + (k + 1) / 2 := by omega
    conv => lhs; rw [e]
    rw [sm_split, sm_congr (F := fun j => F ((k + 1) / 2 + 1 + j)) (G := fun j => F ((k + 1) / 2 - 1 - j)) (fun j hj => by show F _ = F _; rw [hsym _ (by omega)]; congr 1; omega), sm_rev]
    have e2 : F ((k + 1) / 2) = f (k / 2) * f (k / 2) := by rw [← hF]; show f ((k + 1) / 2) * f (k - (k + 1) / 2) = _; rw [show (k + 1) / 2 = k / 2 by omega, show k - k / 2 = k / 2 by omega]
    show sm F ((k + 1) / 2) + F ((k + 1) / 2) + _ = _
    rw [e2]
    omega
  · rw [if_neg hk]
    have e : k + 1 = (k + 1) / 2 + (k + 1) / 2 := by omega
    conv => lhs; rw [e]
    rw [sm_split, sm_congr (F := fun j => F ((k + 1) / 2 + j)) (G := fun j => F ((k + 1) / 2 - 1 - j)) (fun j hj => by show F _ = F _; rw [hsym _ (by omega)]; congr 1; omega), sm_rev]
    omega
