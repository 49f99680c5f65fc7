/-! an object and its array are done at once -/
theorem WD.re {D : va_G} {g : Nat → ClassId} {w w' : Wl} {σ : St} {A : Nat → Prop} {s : State} {H : Heap} {locs : List Loc} (h : WD D g w σ A s H locs) (f : ∀ k i, w'.2 k i → ∃ k0 i0, w.2 k0 i0 ∧ w'.1 k i = w.1 k0 i0 ∧ ∀ a, va_at D vwCl (a, cont g w.1 σ k0 i0) H → va_at D vwCl (a, cont g w'.1 σ k i) H) (hinj : ∀ k i k' i', w'.2 k i → w'.2 k' i' → w'.1 k i = w'.1 k' i' → k = k' ∧ i = i') (hm : ∀ k i, w'.2 k i → ∀ q ∈ mn σ k i, w'.2 q.1 q.2) : WD D g w' σ A s H locs := by
  refine ⟨h.1, fun k i hl => ?_, ⟨hinj, hm⟩, fun k i hl => ?_, h.2.2.2.2⟩
  · obtain ⟨k0, i0, a, b, c⟩ := f k i hl
    rw [b]
    exact c _ (h.2.1 k0 i0 a)
  · obtain ⟨k0, i0, a, b, c⟩ := f k i hl
    rw [b]
    exact h.2.2.2.1 k0 i0 a
/-- who names an array under construction -/
theorem mn_raw {σ : St} {k i : Nat} {q : Nat × Nat} (h : q ∈ mn σ k i) (h30 : 30 ≤ q.1) : (k = 30 ∧ q = (41, 0)) ∨ (k = 35 ∧ q = (36, i)) := by
  have ht : ∀ k i, (tp k i).all (fun d => d.1 != 0 || decide (d.2.1 < 30)) = true := by
    intro k i
    unfold tp
    split <;> rfl
  have h2 : ∀ k i, q ∈ (tp k i).filterMap (fun d => if d.1 = 0 then some d.2 else none) → False := by
    intro k i hq
    obtain ⟨d, hd, he⟩ := List.mem_filterMap.mp hq
    by_cases c : d.1 = 0
    · rw [if_pos c] at he
      have h3 := List.all_eq_true.mp (ht k i) d hd
      simp [c] at h3
      rw [Option.some.inj he] at h3
      omega
    · rw [if_neg c] at he
      cases he
  have h3 : ∀ k i (n : Int), k ≠ 0 → k ≠ 5 → q ∈ (rawL k i).filterMap (fun q => if q.1.1 = 0 ∧ (q.2 : Int) < n then some q.1.2 else none) → False := by
    intro k i n n0 n5 hq
    have ha : (ix k i).all (fun d => d.1.1 != 0 || decide (d.1.2.1 < 30)) = true := by
      unfold ix
      split
      · exact absurd rfl n0
      · exact absurd rfl n5
      · rfl
      · unfold tp
        split <;> rfl
    obtain ⟨d, hd, he⟩ := List.mem_filterMap.mp hq
    by_cases c : d.1.1 = 0 ∧ (d.2 : Int) < n
    · rw [if_pos c] at he
      have h3 := List.all_eq_true.mp ha d hd
      simp [c.1] at h3
      rw [Option.some.inj he] at h3
      omega
    · rw [if_neg c] at he
      cases he
  have h4 : ∀ i (n : Int), q ∈ (rawL 0 i).filterMap (fun q => if q.1.1 = 0 ∧ (q.2 : Int) < n then some q.1.2 else none) → q = (41, 0) := by
    intro i n hq
    have ha : (ix 0 i).all (fun d => d.1.1 != 0 || decide (d.1.2.1 < 30) || d.1.2 == (41, 0)) = true := rfl
    obtain ⟨d, hd, he⟩ := List.mem_filterMap.mp hq
    by_cases c : d.1.1 = 0 ∧ (d.2 : Int) < n
    · rw [if_pos c] at he
      have h3 := List.all_eq_true.mp ha d hd
      rw [Option.some.inj he] at h3
      simp [c.1] at h3
      rcases h3 with h3 | h3
      · omega
      · exact h3
    · rw [if_neg c] at he
      cases he
  have h5 : ∀ i (n : Int), q ∈ (rawL 5 i).filterMap (fun q => if q.1.1 = 0 ∧ (q.2 : Int) < n then some q.1.2 else none) → q = (36, i) := by
    intro i n hq
    obtain ⟨d, hd, he⟩ := List.mem_filterMap.mp hq
    by_cases c : d.1.1 = 0 ∧ (d.2 : Int) < n
    · rw [if_pos c] at he
      rcases List.mem_cons.mp hd with rfl | hd
      · exact (Option.some.inj he).symm
      · rcases List.mem_cons.mp hd with rfl | hd
        · exact absurd c.1 (by decide)
        · cases hd
    · rw [if_neg c] at he
      cases he
  unfold mn at h
  split at h
  all_goals first
    | exact (h2 _ _ h).elim
    | exact (h3 _ _ _ (by decide) (by decide) h).elim
    | exact Or.inl ⟨rfl, h4 _ _ h⟩
    | exact Or.inr ⟨rfl, h5 _ _ h⟩
    | (obtain ⟨j, -, rfl⟩ := List.mem_map.mp h; dsimp only at h30; omega)
    | cases h
