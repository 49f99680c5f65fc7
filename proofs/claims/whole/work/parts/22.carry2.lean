theorem nm_top {σ : St} {i u z : Nat} (hd : WDg σ i) (hu : 0 < u) (hv : vB 268435456 (fW σ i) u = z) (hz : 268435456 ^ (u - 1) ≤ z) : σ 3 i (u - 1) ≠ 0 := by
  intro h
  obtain ⟨m, rfl⟩ : ∃ m, u = m + 1 := ⟨u - 1, by omega⟩
  rw [show m + 1 - 1 = m by omega] at h hz
  rw [vB_suc] at hv
  have e : fW σ i m = 0 := by show (σ 3 i m).toNat = 0; rw [h]; rfl
  rw [e, Nat.zero_mul] at hv
  have := vB_lt (b := 268435456) (f := fW σ i) (n := m) (fun j _ => dg_lt hd j)
  omega
theorem no_borrow {X D P c : Int} (h : X + c * P = D) (h0 : 0 ≤ D) (hX : X < P) (hc : c = 0 ∨ c = -1) : X = D := by
  rcases hc with rfl | rfl
  · omega
  · omega
theorem WN.ge {σ : St} {i u v : Nat} (hd : WDg σ i) (ht : 0 < u → σ 3 i (u - 1) ≠ 0) (hv : vB 268435456 (fW σ i) u = v) (hu : 0 < u) : 268435456 ^ (u - 1) ≤ v := by
  rw [← hv]
  exact vB_top hu (by have := ht hu; have := (hd (u - 1)).1; show (σ 3 i (u - 1)).toNat ≠ 0; omega)
/-- the digits from m on as they were, those below with a carry out of m that is 0 -/
theorem vB_rest {f g : Nat → Nat} {m u : Nat} (hm : m ≤ u) (h : ∀ j, m ≤ j → j < u → f j = g j) {e : Nat} (he : vB 268435456 f m = vB 268435456 g m + e) : vB 268435456 f u = vB 268435456 g u + e := by
  obtain ⟨d, rfl⟩ := Nat.le.dest hm
  rw [vB_split, vB_split, vB_congr (f := fun j => f (m + j)) (g := fun j => g (m + j)) (fun j hj => h _ (by omega) (by omega))]
  omega
theorem dgt_all {v u : Nat} (h : v < 268435456 ^ u) : vB 268435456 (dgt v) u = v := by rw [dgt_vB, Nat.mod_eq_of_lt h]
