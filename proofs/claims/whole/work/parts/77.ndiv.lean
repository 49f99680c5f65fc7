theorem n_shl_step {X Y P T M q r d c : Int} (h : X + c * P = Y * T) (hs : M = d * T + c) (hq : M = r + q * 65536) : X + r * P + q * (P * 65536) = (Y + d * P) * T := by
  have e := carry_I (B := 65536) (s := M) (d := d * T) h hs hq
  rw [e, Int.add_mul, Int.mul_right_comm]
theorem n_shl_bound {d t c : Nat} (hd : d < 65536) (hc : c < 2 ^ t) : d * 2 ^ t + c < 65536 * 2 ^ t := by
  have h : (d + 1) * 2 ^ t ≤ 65536 * 2 ^ t := Nat.mul_le_mul_right _ hd
  rw [Nat.add_mul, Nat.one_mul] at h
  omega
theorem n_shd_dig (v t k : Nat) : n_dgt (v / 2 ^ t) k = (n_dgt v (k + t / 16) + n_dgt v (k + t / 16 + 1) * 65536) / 2 ^ (t % 16) % 65536 := by
  unfold n_dgt
  have e1 : t = 16 * (t / 16) + t % 16 := by omega
  have hlt : t % 16 < 16 := Nat.mod_lt _ (by omega)
  generalize t / 16 = a at *
  generalize t % 16 = r at *
  subst e1
  rw [Nat.pow_add, ← n_p28, Nat.div_div_eq_div_mul, Nat.mul_assoc, Nat.mul_comm (2 ^ r), ← Nat.mul_assoc, ← Nat.pow_add, Nat.add_comm a k, ← Nat.div_div_eq_div_mul, Nat.pow_succ, ← Nat.div_div_eq_div_mul]
  generalize v / 65536 ^ (k + a) = x
  -- x / 2^r % B = (x % B + x / B % B * B) / 2^r % B
  have e2 : x % 65536 + x / 65536 % 65536 * 65536 = x % (65536 * 65536) := by rw [Nat.mod_mul, Nat.mul_comm 65536]
  rw [e2]
  have e3 : 65536 * 65536 = 2 ^ r * (65536 * 2 ^ (16 - r)) := by
    rw [Nat.mul_left_comm, ← Nat.pow_add, show r + (16 - r) = 16 by omega]
  rw [e3, Nat.mod_mul_right_div_self, Nat.mod_mul_right_mod]
theorem n_shd_lt {v t u : Nat} (h : v < 65536 ^ u) (ht : t / 16 ≤ u) : v / 2 ^ t < 65536 ^ (u - t / 16) := by
  apply Nat.div_lt_of_lt_mul
  refine Nat.lt_of_lt_of_le h ?_
  rw [n_p28, n_p28, ← Nat.pow_add]
  exact Nat.pow_le_pow_right (by omega) (by omega)
def n_win (σ : St) (o p : Nat) : Nat → Nat := fun j => (σ 12 o (p + j)).toNat
theorem n_win_lt {σ : St} {o : Nat} (h : NDg σ o) (p j : Nat) : n_win σ o p j < 65536 := n_dg_lt h (p + j)
theorem n_win_su {σ : St} {o p m : Nat} {x : Int} : ∀ {n : Nat}, n ≤ m → vB 65536 (n_win (su σ 12 o (p + m) x) o p) n = vB 65536 (n_win σ o p) n := fun h => vB_congr (fun j hj => by show (su σ 12 o (p + m) x 12 o (p + j)).toNat = (σ 12 o (p + j)).toNat; rw [su_j (by omega)])
theorem n_win_suS {σ : St} {o p m : Nat} {x : Int} (hx : 0 ≤ x) : ((vB 65536 (n_win (su σ 12 o (p + m) x) o p) (m + 1) : Nat) : Int) = ((vB 65536 (n_win σ o p) m : Nat) : Int) + x * ((65536 ^ m : Nat) : Int) := by
  rw [vB_suc, n_win_su (Nat.le_refl m)]
  show ((_ + (su σ 12 o (p + m) x 12 o (p + m)).toNat * 65536 ^ m : Nat) : Int) = _
  rw [su_s, Int.natCast_add, Int.natCast_mul, Int.toNat_of_nonneg hx]
theorem n_win_suc {σ : St} {o p m : Nat} (h : NDg σ o) : ((vB 65536 (n_win σ o p) (m + 1) : Nat) : Int) = ((vB 65536 (n_win σ o p) m : Nat) : Int) + σ 12 o (p + m) * ((65536 ^ m : Nat) : Int) := by
  rw [vB_suc, Int.natCast_add, Int.natCast_mul]
  show _ + ((σ 12 o (p + m)).toNat : Int) * _ = _
  rw [Int.toNat_of_nonneg (h _).1]
theorem n_take_step {X Y Z P Q d f s c q' r : Int} (h : X + c * P = Y - Q * Z) (hs : s = f - Q * d + c) (hq : s = r + q' * 65536) : X + r * P + q' * (P * 65536) = (Y + f * P) - Q * (Z + d * P) := by
  have e := carry_I (B := 65536) (s := s) (d := f - Q * d) h hs hq
  rw [e, Int.sub_mul, Int.mul_add, Int.mul_assoc]
  omega
theorem n_put_step {X Y Z P d f s c q' r : Int} (h : X + c * P = Y + Z) (hs : s = f + d + c) (hq : s = r + q' * 65536) : X + r * P + q' * (P * 65536) = (Y + f * P) + (Z + d * P) := by
  have e := carry_I (B := 65536) (s := s) (d := f + d) h hs hq
  rw [e, Int.add_mul]
  omega

theorem n_vB_2 {f : Nat → Nat} {k : Nat} : vB 65536 f (k + 2) = vB 65536 f k + (f k + f (k + 1) * 65536) * 65536 ^ k := by
  rw [vB_suc, vB_suc, Nat.pow_succ, Nat.add_mul, Nat.mul_assoc (f (k + 1)), Nat.mul_comm 65536]
  omega
theorem n_win_1 {s : St} {o k : Nat} (M : Nat) : vB 65536 (n_win s o k) (M + 1) = (s 12 o k).toNat + vB 65536 (n_win s o (k + 1)) M * 65536 := by
  rw [Nat.add_comm M 1, vB_split, vB_1, Nat.pow_one]
  rw [vB_congr (f := fun j => n_win s o k (1 + j)) (g := n_win s o (k + 1)) (fun j _ => by show (s 12 o (k + (1 + j))).toNat = (s 12 o (k + 1 + j)).toNat; rw [show k + (1 + j) = k + 1 + j by omega])]
  rfl
theorem n_vB_cut {f : Nat → Nat} {n M : Nat} (hd : ∀ j, j < M → f j < 65536) (hn : n ≤ M) (h : vB 65536 f M < 65536 ^ n) : vB 65536 f n = vB 65536 f M ∧ vB 65536 (fun j => f (n + j)) (M - n) = 0 := by
  have h1 := vB_mod (b := 65536) hn hd
  rw [Nat.mod_eq_of_lt h] at h1
  have h2 := vB_div (b := 65536) (by omega) hn hd
  rw [Nat.div_eq_of_lt h] at h2
  exact ⟨h1.symm, h2.symm⟩
theorem n_win_paste {s s' : St} {o k n M : Nat} (hn : n ≤ M) (hz : vB 65536 (fun j => n_win s o k (n + j)) (M - n) = 0) (hag : ∀ j, k + n ≤ j → s' 12 o j = s 12 o j) : vB 65536 (n_win s' o k) M = vB 65536 (n_win s' o k) n := by
  obtain ⟨d, rfl⟩ := Nat.le.dest hn
  rw [vB_split]
  rw [show n + d - n = d by omega] at hz
  rw [vB_congr (f := fun j => n_win s' o k (n + j)) (g := fun j => n_win s o k (n + j)) (fun j _ => by show (s' 12 o (k + (n + j))).toNat = (s 12 o (k + (n + j))).toNat; rw [hag _ (by omega)]), hz]
  omega
theorem n_win_0 {s : St} {o n : Nat} : vB 65536 (n_win s o 0) n = vB 65536 (fN s o) n := vB_congr (fun j _ => by show (s 12 o (0 + j)).toNat = (s 12 o j).toNat; rw [Nat.zero_add])
theorem n_red_first {N a n δ : Nat} (hN : N < 65536 ^ a) (hn : 1 ≤ n) (hna : n ≤ a) (hδ : 65536 ^ (n - 1) ≤ δ) : N / 65536 ^ (a - n + 1) < δ := by
  refine Nat.lt_of_lt_of_le (Nat.div_lt_of_lt_mul ?_) hδ
  rw [← Nat.pow_add, show a - n + 1 + (n - 1) = a by omega]
  exact hN
theorem n_red_step {A Q q W R δ d hi : Nat} (h1 : A = Q * δ + hi) (h2 : W = d + hi * 65536) (h3 : R + q * δ = W) : A * 65536 + d = (q + Q * 65536) * δ + R := by
  rw [h1, Nat.add_mul, Nat.add_mul, Nat.mul_right_comm Q]
  omega
theorem or_sh {a e P Q : Nat} (hP : 0 < P) (hQ : 0 < Q) (hB : P * Q = 65536) (ha : a < 65536) : (a + e * 65536) / P % 65536 = a / P + e * Q % 65536 := by
  have h1 : a / P < Q := by rw [Nat.div_lt_iff_lt_mul hP, Nat.mul_comm, hB]; exact ha
  have h2 : a + e * 65536 = a + P * (Q * e) := by rw [← Nat.mul_assoc, hB, Nat.mul_comm]
  rw [h2, Nat.add_mul_div_left a (Q * e) hP, ← hB, Nat.mul_comm P Q, Nat.mod_mul, Nat.mul_comm e Q, Nat.mul_mod_mul_left, Nat.add_mul_mod_self_left, Nat.mod_eq_of_lt h1, Nat.add_mul_div_left _ _ hQ, Nat.div_eq_of_lt h1, Nat.zero_add]
theorem p16 {t : Nat} (ht : t < 16) : 2 ^ t ≤ 32768 := Nat.le_trans (Nat.pow_le_pow_right (by omega) (show t ≤ 15 by omega)) (Nat.le_refl _)
theorem p16b {t : Nat} (ht : t < 16) : 2 ^ t * 2 ^ (16 - t) = 65536 := by rw [← Nat.pow_add, show t + (16 - t) = 16 by omega]
theorem n_unsh {R t k : Nat} (ht : t < 16) : n_dgt (R / 2 ^ t) k = n_dgt R k / 2 ^ t + n_dgt R (k + 1) * 2 ^ (16 - t) % 65536 := by
  have h := n_shd_dig R t k
  rw [Nat.div_eq_of_lt ht, Nat.mod_eq_of_lt ht, Nat.add_zero] at h
  rw [h]
  exact or_sh (Nat.two_pow_pos _) (Nat.two_pow_pos _) (p16b ht) (n_dgt_lt R k)
