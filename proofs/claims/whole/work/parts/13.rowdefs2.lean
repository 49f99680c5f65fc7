theorem sr_nil {σ : St} {i : Nat} : su σ 0 i 0 0 = sr σ i [] := by
  funext c a b
  simp only [su, sr, List.length_nil, Nat.not_lt_zero, and_false, if_false]
  rfl
def mixm (m : Nat) (A B : List Nat) : List Nat := (List.range A.length).map (fun k => if k < m then A.getD k 0 ^^^ B.getD k 0 else A.getD k 0)
def mix (A B : List Nat) : List Nat := (List.range A.length).map (fun k => A.getD k 0 ^^^ B.getD k 0)
theorem mixm_len {m : Nat} {A B : List Nat} : (mixm m A B).length = A.length := by simp [mixm]
theorem mix_len {A B : List Nat} : (mix A B).length = A.length := by simp [mix]
theorem mixm_get {m k : Nat} {A B : List Nat} (hk : k < A.length) : (mixm m A B).getD k 0 = if k < m then A.getD k 0 ^^^ B.getD k 0 else A.getD k 0 := by
  simp [mixm, List.getD, List.getElem?_map, List.getElem?_range, hk]
theorem mixm_0 {A B : List Nat} : mixm 0 A B = A := by
  apply List.ext_getElem
  · simp [mixm]
  · intro n h1 h2
    simp [mixm, List.getD, h2]
theorem mixm_all {A B : List Nat} : mixm A.length A B = mix A B := by
  unfold mixm mix
  apply List.map_congr_left
  intro k hk
  rw [if_pos (List.mem_range.mp hk)]
theorem xor_by {a b : Nat} (ha : a < 256) (hb : b < 256) : a ^^^ b < 256 := Nat.xor_lt_two_pow (n := 8) ha hb
theorem mixm_by {m : Nat} {A B : List Nat} (hA : BY A) (hB : BY B) : BY (mixm m A B) := by
  intro x hx
  simp only [mixm, List.mem_map] at hx
  obtain ⟨k, -, rfl⟩ := hx
  split
  · exact xor_by (hA.get k) (hB.get k)
  · exact hA.get k
theorem mix_by {A B : List Nat} (hA : BY A) (hB : BY B) : BY (mix A B) := by rw [← mixm_all]; exact mixm_by hA hB
theorem mixm_set {m : Nat} {A B : List Nat} : (mixm m A B).set m (A.getD m 0 ^^^ B.getD m 0) = mixm (m + 1) A B := by
  apply List.ext_getElem
  · simp [mixm]
  · intro n h1 h2
    have hn : n < A.length := by rw [mixm_len] at h2; exact h2
    rw [List.getElem_set]
    by_cases hm : m = n
    · subst hm
      simp [mixm]
    · rw [if_neg hm]
      simp only [mixm, List.getElem_map, List.getElem_range]
      by_cases h : n < m
      · rw [if_pos h, if_pos (by omega)]
      · rw [if_neg h, if_neg (by omega)]
theorem drop_cons {L : List Nat} {k : Nat} (h : k < L.length) : L.drop k = L.getD k 0 :: L.drop (k + 1) := by
  rw [List.drop_eq_getElem_cons h]
  simp [List.getD, List.getElem?_eq_getElem h]
theorem drop_all {L : List Nat} {k : Nat} (h : L.length ≤ k) : L.drop k = [] := List.drop_eq_nil_of_le h
/-- how many of L from k on have p, one behind the other -/
def run (p : Nat → Bool) (L : List Nat) (k : Nat) : Nat := ((L.drop k).takeWhile p).length
theorem run_s {p : Nat → Bool} {L : List Nat} {k : Nat} (h : k < L.length) (hp : p (L.getD k 0) = true) : run p L k = run p L (k + 1) + 1 := by
  unfold run
  rw [drop_cons h, List.takeWhile_cons_of_pos hp]
  rfl
theorem run_e {p : Nat → Bool} {L : List Nat} {k : Nat} (h : k < L.length) (hp : ¬ p (L.getD k 0) = true) : run p L k = 0 := by
  unfold run
  rw [drop_cons h, List.takeWhile_cons_of_neg hp]
  rfl
theorem run_0 {p : Nat → Bool} {L : List Nat} {k : Nat} (h : L.length ≤ k) : run p L k = 0 := by
  unfold run
  rw [drop_all h]
  rfl
theorem run_le {p : Nat → Bool} {L : List Nat} {k : Nat} : run p L k ≤ L.length - k := by
  unfold run
  have := (List.takeWhile_sublist (p := p) (l := L.drop k)).length_le
  rw [List.length_drop] at this
  exact this
/-- two rows agree up to m -/
def agr (A B : List Nat) (m : Nat) : Prop := ∀ k, k < m → A.getD k 0 = B.getD k 0
theorem agr_s {A B : List Nat} {m : Nat} (h : agr A B m) (e : A.getD m 0 = B.getD m 0) : agr A B (m + 1) := by
  intro k hk
  by_cases hm : k = m
  · subst hm; exact e
  · exact h k (by omega)
theorem agr_take {A B : List Nat} (hl : B.length ≤ A.length) : A.take B.length = B ↔ agr A B B.length := by
  constructor
  · intro h k hk
    have e : (A.take B.length).getD k 0 = B.getD k 0 := by rw [h]
    rw [← e]
    simp [List.getD, List.getElem?_take, hk]
  · intro h
    apply List.ext_getElem
    · simp; omega
    · intro n h1 h2
      have e := h n h2
      have hA : n < A.length := by omega
      simp [List.getD, List.getElem?_eq_getElem h2, List.getElem?_eq_getElem hA] at e
      simp [e]
theorem take_ne {A B : List Nat} (hl : A.length < B.length) : ¬ A.take B.length = B := by
  intro h
  have := congrArg List.length h
  simp at this
  omega
