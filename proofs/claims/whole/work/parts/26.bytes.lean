theorem dgt_step (v n : Nat) : v / 268435456 ^ n = v / 268435456 ^ (n + 1) * 268435456 + dgt v n := by
  unfold dgt
  rw [Nat.pow_succ, ← Nat.div_div_eq_div_mul]
  omega
/-- a number as n bytes, the highest first: the first q of them -/
def beP (v n q : Nat) : List Nat := (List.range q).map (fun j => v / 256 ^ (n - 1 - j) % 256)
def be (v n : Nat) : List Nat := beP v n n
theorem beP_len {v n q : Nat} : (beP v n q).length = q := by simp [beP]
theorem beP_by {v n q : Nat} : BY (beP v n q) := by
  intro x hx
  simp only [beP, List.mem_map] at hx
  obtain ⟨j, -, rfl⟩ := hx
  exact Nat.mod_lt _ (by omega)
theorem beP_suc {v n q : Nat} : beP v n q ++ [v / 256 ^ (n - 1 - q) % 256] = beP v n (q + 1) := by
  unfold beP
  rw [List.range_succ, List.map_append]
  rfl
theorem be_len {v n : Nat} : (be v n).length = n := beP_len
theorem be_by {v n : Nat} : BY (be v n) := beP_by
theorem p256 (k : Nat) : 256 ^ k = 2 ^ (8 * k) := by rw [Nat.pow_mul]
theorem byte_of (v k : Nat) : (dgt v (8 * k / 28) / 2 ^ (8 * k % 28) + dgt v (8 * k / 28 + 1) * 2 ^ (28 - 8 * k % 28)) % 256 = v / 256 ^ k % 256 := by
  have h := shd_dig v (8 * k) 0
  rw [Nat.zero_add] at h
  have hlt : 8 * k % 28 < 28 := Nat.mod_lt _ (by omega)
  generalize 8 * k % 28 = r at *
  have e1 : dgt v (8 * k / 28 + 1) * 268435456 = dgt v (8 * k / 28 + 1) * 2 ^ (28 - r) * 2 ^ r := by rw [Nat.mul_assoc, ← Nat.pow_add, show 28 - r + r = 28 by omega]
  rw [e1, Nat.add_mul_div_right _ _ (Nat.two_pow_pos r)] at h
  have h2 : dgt (v / 2 ^ (8 * k)) 0 = v / 2 ^ (8 * k) % 268435456 := by unfold dgt; rw [Nat.pow_zero, Nat.div_one]
  rw [h2] at h
  rw [p256]
  omega
/-- the number of a row -/
def rv (L : List Nat) : Nat := L.foldl (fun a x => a * 256 + x) 0
theorem rv_from (L : List Nat) : ∀ a, L.foldl (fun a x => a * 256 + x) a = a * 256 ^ L.length + rv L := by
  induction L with
  | nil => intro a; show a = a * 256 ^ 0 + 0; omega
  | cons x L ih =>
    intro a
    show L.foldl _ (a * 256 + x) = a * 256 ^ (L.length + 1) + L.foldl _ (0 * 256 + x)
    rw [ih, ih (0 * 256 + x), Nat.pow_succ, Nat.zero_mul, Nat.zero_add, Nat.add_mul, Nat.mul_assoc a, Nat.mul_comm 256, Nat.add_assoc]
theorem rv_cons (x : Nat) (L : List Nat) : rv (x :: L) = x * 256 ^ L.length + rv L := by
  show L.foldl _ (0 * 256 + x) = _
  rw [rv_from, Nat.zero_mul, Nat.zero_add]
theorem rv_lt {L : List Nat} (h : BY L) : rv L < 256 ^ L.length := by
  induction L with
  | nil => show 0 < 1; omega
  | cons x L ih =>
    rw [rv_cons, List.length_cons, Nat.pow_succ]
    have h1 := ih (fun y hy => h y (List.mem_cons_of_mem _ hy))
    have h2 : x + 1 ≤ 256 := h x List.mem_cons_self
    have h3 : (x + 1) * 256 ^ L.length ≤ 256 * 256 ^ L.length := Nat.mul_le_mul_right _ h2
    rw [Nat.add_mul, Nat.one_mul] at h3
    omega
theorem sr_23 {σ : St} {i c : Nat} {L : List Nat} (h : 2 ≤ c) : sr σ i L c = σ c := sr_c (by omega) (by omega)
