def prL : List Nat := [2, 3, 5, 7, 11, 13, 17, 19, 23, 29, 31, 37, 41, 43, 47, 53, 59, 61, 67, 71, 73, 79, 83, 89, 97, 101, 103, 107, 109, 113, 127, 131, 137, 139, 149, 151, 157, 163, 167, 173, 179, 181, 191, 193, 197, 199, 211, 223, 227, 229, 233, 239, 241, 251, 257, 263, 269, 271, 277, 281, 283, 293, 307, 311]
def pr (k : Nat) : Nat := prL.getD k 0
def tr (c m : Nat) : Bool := (List.range m).all (fun j => decide (j < 2) || decide (c % j ≠ 0))
theorem tr_s {c j : Nat} (h : 2 ≤ j) : tr c (j + 1) = (tr c j && decide (c % j ≠ 0)) := by
  unfold tr
  rw [List.range_succ, List.all_append]
  simp [show ¬ j < 2 by omega]
theorem tr_2 {c : Nat} : tr c 2 = true := rfl
theorem pr_no : ∀ i, i < 63 → ∀ c, c < 312 → pr i < c → c < pr (i + 1) → tr c c = false := by decide +kernel
theorem pr_yes : ∀ i, i < 63 → tr (pr (i + 1)) (pr (i + 1)) = true ∧ pr i < pr (i + 1) ∧ pr (i + 1) ≤ 311 ∧ 2 ≤ pr i := by decide +kernel
theorem pr_bs : ∀ k, k < 12 → pr k = bs k := by decide +kernel
theorem pr_le : ∀ k, k < 64 → pr k ≤ 311 ∧ 2 ≤ pr k := by decide +kernel

set_option maxHeartbeats 1000000 in
set_option maxRecDepth 100000 in
theorem c_X8_prime (l : Launch) (w : Wl) (σ : St) (k : Nat) (hk : k < 64) : Cn l yX8_prime cX8_prime 5 (Option.some Jvm.ClassFile.FieldType.int) 0 0 wI [.int (iI ((k : Int)))] w σ (fun a σ' => a = (pr k : Int) ∧ σ' = σ) := by
  refine Cn.of (own := RX8) (lv := [(0, .int (iI ((k : Int))))]) (by decide +kernel) rfl (Nat.le_of_ble_eq_true rfl) rfl (fun X hX hxl hR hcl hret => ?_)
  subst hxl
  have L3 : ∀ (i c : Nat), c ≤ 311 → i < 64 → (∀ b : Int, ((b = 1 ∧ tr c c = true) ∨ (b = 0 ∧ tr c c = false)) → V X (0, 0) w 11 [(3, .int (iI (b))), (2, .int (iI ((i : Int)))), (1, .int (iI ((c : Int)))), (0, .int (iI ((k : Int))))] σ []) → ∀ (d j : Nat) (b : Int), j + d = c → 2 ≤ j → ((b = 1 ∧ tr c j = true) ∨ (b = 0 ∧ tr c j = false)) → V X (0, 0) w 23 [(4, .int (iI ((j : Int)))), (3, .int (iI (b))), (2, .int (iI ((i : Int)))), (1, .int (iI ((c : Int)))), (0, .int (iI ((k : Int))))] σ [] := by
    intro i c hc hi hend d
    induction d with
    | zero =>
      intro j b hj hj2 hb
      obtain rfl : j = c := by omega
      have hbr : b = 0 ∨ b = 1 := by rcases hb with q | q <;> omega
      refine v_iload hX 0 rfl (atL dAX8_prime_0 16 rfl) ?_
      refine v_iload_n hX 3 rfl (atL dAX8_prime_0 17 rfl) ?_
      refine v_icmp_ge hX ⟨by omega, by omega⟩ ⟨by omega, by omega⟩ (tgt := 52) (atL dAX8_prime_0 18 rfl) (by decide) (fun h26 => ?_) (fun h26 => absurd h26 (by omega))
      refine v_goto hX (tgt := 11) (atL dAX8_prime_0 31 rfl) (by decide) ?_
      refine v_sub (lv' := [(3, .int (iI (b))), (2, .int (iI ((i : Int)))), (1, .int (iI ((j : Int)))), (0, .int (iI ((k : Int))))]) [1, 2, 3, 4] rfl ?_
      exact hend b hb
    | succ d ih =>
      intro j b hj hj2 hb
      have hbr : b = 0 ∨ b = 1 := by rcases hb with q | q <;> omega
      have hts := tr_s (c := c) hj2
      obtain ⟨rm, hrm⟩ : ∃ q, c % j = q := ⟨_, rfl⟩
      have hrl : rm < j := by rw [← hrm]; exact Nat.mod_lt _ (by omega)
      rw [hrm] at hts
      have hrc : (c : Int) % (j : Int) = (rm : Int) := by rw [← hrm]; rfl
      refine v_iload hX 0 rfl (atL dAX8_prime_0 16 rfl) ?_
      refine v_iload_n hX 3 rfl (atL dAX8_prime_0 17 rfl) ?_
      refine v_icmp_ge hX ⟨by omega, by omega⟩ ⟨by omega, by omega⟩ (tgt := 52) (atL dAX8_prime_0 18 rfl) (by decide) (fun h26 => absurd h26 (by omega)) (fun h26 => ?_)
      refine v_iload_n hX 1 rfl (atL dAX8_prime_0 19 rfl) ?_
      refine v_if_eq hX ⟨by omega, by omega⟩ (tgt := 44) (atL dAX8_prime_0 20 rfl) (by decide) (fun h30 => ?_) (fun h30 => ?_)
      · refine v_iconst hX (atL dAX8_prime_0 27 rfl) ?_
        refine v_istore_n hX (i := 3) rfl (lv' := [(3, .int (iI (0))), (4, .int (iI ((j : Int)))), (2, .int (iI ((i : Int)))), (1, .int (iI ((c : Int)))), (0, .int (iI ((k : Int))))]) (Nat.le_of_ble_eq_true rfl) rfl (atL dAX8_prime_0 28 rfl) ?_
        refine v_iinc hX (lv' := [(4, .int (iI (((j : Int)) + 1))), (3, .int (iI (0))), (2, .int (iI ((i : Int)))), (1, .int (iI ((c : Int)))), (0, .int (iI ((k : Int))))]) 1 rfl (iI_add _ _) (Nat.le_of_ble_eq_true rfl) rfl (atL dAX8_prime_0 29 rfl) ?_
        refine v_goto hX (tgt := 23) (atL dAX8_prime_0 30 rfl) (by decide) ?_
        refine v_sub (lv' := [(4, .int (iI (((j : Int)) + 1))), (3, .int (iI (0))), (2, .int (iI ((i : Int)))), (1, .int (iI ((c : Int)))), (0, .int (iI ((k : Int))))]) [0, 1, 2, 3, 4] rfl ?_
        rw [show (j : Int) + 1 = ((j + 1 : Nat) : Int) by omega]
        exact ih (j + 1) _ (by omega) (by omega) (Or.inr ⟨rfl, by rw [hts, (hb.resolve_left (fun q => by omega)).2]; rfl⟩)
      · refine v_iload_n hX 3 rfl (atL dAX8_prime_0 21 rfl) ?_
        refine v_iload hX 0 rfl (atL dAX8_prime_0 22 rfl) ?_
        refine v_irem hX (fun e0 => absurd ((iI_eq (b := 0) ⟨by omega, by omega⟩ ⟨by omega, by omega⟩).mp e0) (by omega)) (iI_rem (by omega) (by omega) (by omega) (by omega)) (atL dAX8_prime_0 23 rfl) ?_
        rw [show (((c : Int)) % ((j : Int))) = (rm : Int) from hrc]
        refine v_if_eq hX ⟨by omega, by omega⟩ (tgt := 44) (atL dAX8_prime_0 24 rfl) (by decide) (fun h37 => ?_) (fun h37 => ?_)
        · refine v_iconst hX (atL dAX8_prime_0 27 rfl) ?_
          refine v_istore_n hX (i := 3) rfl (lv' := [(3, .int (iI (0))), (4, .int (iI ((j : Int)))), (2, .int (iI ((i : Int)))), (1, .int (iI ((c : Int)))), (0, .int (iI ((k : Int))))]) (Nat.le_of_ble_eq_true rfl) rfl (atL dAX8_prime_0 28 rfl) ?_
          refine v_iinc hX (lv' := [(4, .int (iI (((j : Int)) + 1))), (3, .int (iI (0))), (2, .int (iI ((i : Int)))), (1, .int (iI ((c : Int)))), (0, .int (iI ((k : Int))))]) 1 rfl (iI_add _ _) (Nat.le_of_ble_eq_true rfl) rfl (atL dAX8_prime_0 29 rfl) ?_
          refine v_goto hX (tgt := 23) (atL dAX8_prime_0 30 rfl) (by decide) ?_
          refine v_sub (lv' := [(4, .int (iI (((j : Int)) + 1))), (3, .int (iI (0))), (2, .int (iI ((i : Int)))), (1, .int (iI ((c : Int)))), (0, .int (iI ((k : Int))))]) [0, 1, 2, 3, 4] rfl ?_
          rw [show (j : Int) + 1 = ((j + 1 : Nat) : Int) by omega]
          exact ih (j + 1) _ (by omega) (by omega) (Or.inr ⟨rfl, by rw [hts, decide_eq_false (show ¬ rm ≠ 0 by omega), Bool.and_false]⟩)
        · refine v_iconst hX (atL dAX8_prime_0 25 rfl) ?_
          refine v_goto hX (tgt := 45) (atL dAX8_prime_0 26 rfl) (by decide) ?_
          refine v_istore_n hX (i := 3) rfl (lv' := [(3, .int (iI (1))), (4, .int (iI ((j : Int)))), (2, .int (iI ((i : Int)))), (1, .int (iI ((c : Int)))), (0, .int (iI ((k : Int))))]) (Nat.le_of_ble_eq_true rfl) rfl (atL dAX8_prime_0 28 rfl) ?_
          refine v_iinc hX (lv' := [(4, .int (iI (((j : Int)) + 1))), (3, .int (iI (1))), (2, .int (iI ((i : Int)))), (1, .int (iI ((c : Int)))), (0, .int (iI ((k : Int))))]) 1 rfl (iI_add _ _) (Nat.le_of_ble_eq_true rfl) rfl (atL dAX8_prime_0 29 rfl) ?_
          refine v_goto hX (tgt := 23) (atL dAX8_prime_0 30 rfl) (by decide) ?_
          refine v_sub (lv' := [(4, .int (iI (((j : Int)) + 1))), (3, .int (iI (1))), (2, .int (iI ((i : Int)))), (1, .int (iI ((c : Int)))), (0, .int (iI ((k : Int))))]) [0, 1, 2, 3, 4] rfl ?_
          rw [show (j : Int) + 1 = ((j + 1 : Nat) : Int) by omega]
          exact ih (j + 1) _ (by omega) (by omega) (Or.inl ⟨rfl, by rw [hts, (hb.resolve_right (fun q => by omega)).2, decide_eq_true (show rm ≠ 0 by omega)]; rfl⟩)
  have L2 : ∀ (i : Nat), i < 63 → V X (0, 0) w 4 [(2, .int (iI (((i + 1 : Nat) : Int)))), (1, .int (iI ((pr (i + 1) : Int)))), (0, .int (iI ((k : Int))))] σ [] → ∀ (d c : Nat) (b : Int), c + d = pr (i + 1) → pr i ≤ c → ((b = 1 ∧ d = 0) ∨ (b = 0 ∧ 0 < d)) → V X (0, 0) w 11 [(3, .int (iI (b))), (2, .int (iI ((i : Int)))), (1, .int (iI ((c : Int)))), (0, .int (iI ((k : Int))))] σ [] := by
    intro i hi hend d
    obtain ⟨py1, py2, py3, py4⟩ := pr_yes i hi
    induction d with
    | zero =>
      intro c b hc hpc hb
      obtain rfl : c = pr (i + 1) := by omega
      refine v_iload_n hX 0 rfl (atL dAX8_prime_0 9 rfl) ?_
      refine v_if_ne hX ⟨by omega, by omega⟩ (tgt := 55) (atL dAX8_prime_0 10 rfl) (by decide) (fun h12 => ?_) (fun h12 => absurd h12 (by omega))
      refine v_iinc hX (lv' := [(2, .int (iI (((i : Int)) + 1))), (3, .int (iI (b))), (1, .int (iI ((pr (i + 1) : Int)))), (0, .int (iI ((k : Int))))]) 1 rfl (iI_add _ _) (Nat.le_of_ble_eq_true rfl) rfl (atL dAX8_prime_0 32 rfl) ?_
      refine v_goto hX (tgt := 4) (atL dAX8_prime_0 33 rfl) (by decide) ?_
      refine v_sub (lv' := [(2, .int (iI (((i : Int)) + 1))), (1, .int (iI ((pr (i + 1) : Int)))), (0, .int (iI ((k : Int))))]) [0, 2, 3] rfl ?_
      rw [show (i : Int) + 1 = ((i + 1 : Nat) : Int) by omega]
      exact hend
    | succ d ih =>
      intro c b hc hpc hb
      refine v_iload_n hX 0 rfl (atL dAX8_prime_0 9 rfl) ?_
      refine v_if_ne hX ⟨by omega, by omega⟩ (tgt := 55) (atL dAX8_prime_0 10 rfl) (by decide) (fun h12 => absurd h12 (by omega)) (fun h12 => ?_)
      refine v_iinc hX (lv' := [(1, .int (iI (((c : Int)) + 1))), (3, .int (iI (b))), (2, .int (iI ((i : Int)))), (0, .int (iI ((k : Int))))]) 2 rfl (iI_add _ _) (Nat.le_of_ble_eq_true rfl) rfl (atL dAX8_prime_0 11 rfl) ?_
      refine v_iconst hX (atL dAX8_prime_0 12 rfl) ?_
      refine v_istore_n hX (i := 3) rfl (lv' := [(3, .int (iI (1))), (1, .int (iI (((c : Int)) + 1))), (2, .int (iI ((i : Int)))), (0, .int (iI ((k : Int))))]) (Nat.le_of_ble_eq_true rfl) rfl (atL dAX8_prime_0 13 rfl) ?_
      refine v_iconst hX (atL dAX8_prime_0 14 rfl) ?_
      refine v_istore hX (lv' := [(4, .int (iI (2))), (3, .int (iI (1))), (1, .int (iI (((c : Int)) + 1))), (2, .int (iI ((i : Int)))), (0, .int (iI ((k : Int))))]) (Nat.le_of_ble_eq_true rfl) rfl (atL dAX8_prime_0 15 rfl) ?_
      refine v_sub (lv' := [(4, .int (iI (2))), (3, .int (iI (1))), (2, .int (iI ((i : Int)))), (1, .int (iI (((c : Int)) + 1))), (0, .int (iI ((k : Int))))]) [0, 1, 3, 2, 4] rfl ?_
      rw [show (c : Int) + 1 = ((c + 1 : Nat) : Int) by omega]
      refine L3 i (c + 1) (by omega) (by omega) (fun b2 hb2 => ih (c + 1) b2 (by omega) (by omega) ?_) (c + 1 - 2) 2 1 (by omega) (by omega) (Or.inl ⟨rfl, tr_2⟩)
      rcases Nat.eq_zero_or_pos d with e | e
      · rw [show c + 1 = pr (i + 1) by omega, py1] at hb2
        exact Or.inl ⟨(hb2.resolve_right (fun q => by simp at q)).1, e⟩
      · rw [pr_no i hi (c + 1) (by omega) (by omega) (by omega)] at hb2
        exact Or.inr ⟨(hb2.resolve_left (fun q => by simp at q)).1, e⟩
  have L1 : ∀ (d i : Nat), i + d = k → V X (0, 0) w 4 [(2, .int (iI ((i : Int)))), (1, .int (iI ((pr i : Int)))), (0, .int (iI ((k : Int))))] σ [] := by
    intro d
    induction d with
    | zero =>
      intro i hi
      obtain rfl : i = k := by omega
      refine v_iload_n hX 0 rfl (atL dAX8_prime_0 4 rfl) ?_
      refine v_iload_n hX 2 rfl (atL dAX8_prime_0 5 rfl) ?_
      refine v_icmp_ge hX ⟨by omega, by omega⟩ ⟨by omega, by omega⟩ (tgt := 61) (atL dAX8_prime_0 6 rfl) (by decide) (fun h6 => ?_) (fun h6 => absurd h6 (by omega))
      refine v_iload_n hX 1 rfl (atL dAX8_prime_0 34 rfl) ?_
      exact v_iret hX (atL dAX8_prime_0 35 rfl) (hret _ _ ⟨rfl, rfl⟩)
    | succ d ih =>
      intro i hi
      obtain ⟨py1, py2, py3, py4⟩ := pr_yes i (by omega)
      refine v_iload_n hX 0 rfl (atL dAX8_prime_0 4 rfl) ?_
      refine v_iload_n hX 2 rfl (atL dAX8_prime_0 5 rfl) ?_
      refine v_icmp_ge hX ⟨by omega, by omega⟩ ⟨by omega, by omega⟩ (tgt := 61) (atL dAX8_prime_0 6 rfl) (by decide) (fun h6 => absurd h6 (by omega)) (fun h6 => ?_)
      refine v_iconst hX (atL dAX8_prime_0 7 rfl) ?_
      refine v_istore_n hX (i := 3) rfl (lv' := [(3, .int (iI (0))), (2, .int (iI ((i : Int)))), (1, .int (iI ((pr i : Int)))), (0, .int (iI ((k : Int))))]) (Nat.le_of_ble_eq_true rfl) rfl (atL dAX8_prime_0 8 rfl) ?_
      refine v_sub (lv' := [(3, .int (iI (0))), (2, .int (iI ((i : Int)))), (1, .int (iI ((pr i : Int)))), (0, .int (iI ((k : Int))))]) [0, 1, 2, 3] rfl ?_
      exact L2 i (by omega) (ih (i + 1) (by omega)) (pr (i + 1) - pr i) (pr i) 0 (by omega) (Nat.le_refl _) (Or.inr ⟨rfl, by omega⟩)
  refine v_iconst hX (atL dAX8_prime_0 0 rfl) ?_
  refine v_istore_n hX (i := 1) rfl (lv' := [(1, .int (iI (2))), (0, .int (iI ((k : Int))))]) (Nat.le_of_ble_eq_true rfl) rfl (atL dAX8_prime_0 1 rfl) ?_
  refine v_iconst hX (atL dAX8_prime_0 2 rfl) ?_
  refine v_istore_n hX (i := 2) rfl (lv' := [(2, .int (iI (0))), (1, .int (iI (2))), (0, .int (iI ((k : Int))))]) (Nat.le_of_ble_eq_true rfl) rfl (atL dAX8_prime_0 3 rfl) ?_
  refine v_sub (lv' := [(2, .int (iI (0))), (1, .int (iI (2))), (0, .int (iI ((k : Int))))]) [0, 1, 2] rfl ?_
  exact L1 k 0 (by omega)
