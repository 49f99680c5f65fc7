set_option maxHeartbeats 1000000 in
set_option maxRecDepth 100000 in
theorem c_X1_spreadBlock (l : Launch) (w : Wl) (σ : St) (hk0 : w.2 8 0) (o : Nat) (hov : w.2 1 o) (ho : okR σ o) (s0 : Nat) (hs0 : s0 ≤ 90000) (la : Int) (hla : la = 0 ∨ la = 1) : Cn l yX1_spreadBlock cX1_spreadBlock 9 none 2 42 wN [.ref (w.1 8 0), .ref (w.1 1 o), .int (iI ((s0 : Int))), .int (iI (la))] w σ (fun _ σ' => (∀ j, j < 64 → wf σ' 0 j = sch (blk (row σ o) s0 (la = 1)) j) ∧ Fr [(9, 0)] σ σ') := by
  refine Cn.of (own := RX1) (lv := [(0, .ref (w.1 8 0)), (1, .ref (w.1 1 o)), (2, .int (iI ((s0 : Int)))), (3, .int (iI (la)))]) (by decide +kernel) rfl (Nat.le_of_ble_eq_true rfl) rfl (fun X hX hxl hR hcl hret => ?_)
  subst hxl
  have hD9 : ∀ q, (9, q) ∈ mn σ 8 0 → w.2 9 q := fun q h => hcl 8 0 hk0 (9, q) h
  have hR1 : ∀ q, (1, q) ∈ mn σ 8 0 → w.2 1 q := fun q h => hcl 8 0 hk0 (1, q) h
  have l2 : ∀ (d k : Nat) (s : St), k + d = 64 → 16 ≤ k → (∀ j, j < k → wf s 0 j = sch (blk (row σ o) s0 (la = 1)) j) → Fr [(9, 0)] σ s → V X (0, 0) w 95 [(4, .int (iI ((k : Int)))), (0, .ref (w.1 8 0))] s [] := by
    intro d
    induction d with
    | zero =>
      intro k s hk hk2 h2 hf
      obtain rfl : k = 64 := by omega
      refine v_iload hX 0 rfl (atL dAX1_spreadBlock_0 56 rfl) ?_
      refine v_bipush hX (by decide +kernel) (atL dAX1_spreadBlock_0 57 rfl) ?_
      refine v_icmp_ge hX ⟨by omega, by omega⟩ ⟨by omega, by omega⟩ (tgt := 210) (atL dAX1_spreadBlock_0 58 rfl) (by decide) (fun h99 => ?_) (fun h99 => absurd h99 (by omega))
      exact v_vret hX (atL dAX1_spreadBlock_2 0 rfl) (hret () _ ⟨h2, hf⟩)
    | succ d ih =>
      intro k s hk hk2 h2 hf
      refine v_iload hX 0 rfl (atL dAX1_spreadBlock_0 56 rfl) ?_
      refine v_bipush hX (by decide +kernel) (atL dAX1_spreadBlock_0 57 rfl) ?_
      refine v_icmp_ge hX ⟨by omega, by omega⟩ ⟨by omega, by omega⟩ (tgt := 210) (atL dAX1_spreadBlock_0 58 rfl) (by decide) (fun h99 => absurd h99 (by omega)) (fun h99 => ?_)
      refine v_aload_n hX 1 rfl (atL dAX1_spreadBlock_0 59 rfl) ?_
      refine gf_X1_11 hX hk0 (atL dAX1_spreadBlock_1 0 rfl) ?_
      refine v_iload hX 0 rfl (atL dAX1_spreadBlock_1 1 rfl) ?_
      refine v_iconst hX (atL dAX1_spreadBlock_1 2 rfl) ?_
      refine v_isub hX (iI_sub _ _) (atL dAX1_spreadBlock_1 3 rfl) ?_
      refine v_iald hX (r := iI (s 9 0 ((k - 2)))) ((k - 2)) (hD9 0 (by simp [mn, tp])) (fun _ => rfl) (by omega) (show k - 2 < 64 by omega) (by decide) (congrArg iI (rfl)) (atL dAX1_spreadBlock_1 4 rfl) ?_
      refine v_istore hX (lv' := [(5, .int (iI (s 9 0 ((k - 2))))), (4, .int (iI ((k : Int)))), (0, .ref (w.1 8 0))]) (Nat.le_of_ble_eq_true rfl) rfl (atL dAX1_spreadBlock_1 5 rfl) ?_
      refine v_aload_n hX 2 rfl (atL dAX1_spreadBlock_1 6 rfl) ?_
      refine gf_X1_11 hX hk0 (atL dAX1_spreadBlock_1 7 rfl) ?_
      refine v_iload hX 1 rfl (atL dAX1_spreadBlock_1 8 rfl) ?_
      refine v_bipush hX (by decide +kernel) (atL dAX1_spreadBlock_1 9 rfl) ?_
      refine v_isub hX (iI_sub _ _) (atL dAX1_spreadBlock_1 10 rfl) ?_
      refine v_iald hX (r := iI (s 9 0 ((k - 15)))) ((k - 15)) (hD9 0 (by simp [mn, tp])) (fun _ => rfl) (by omega) (show k - 15 < 64 by omega) (by decide) (congrArg iI (rfl)) (atL dAX1_spreadBlock_1 11 rfl) ?_
      refine v_istore hX (lv' := [(6, .int (iI (s 9 0 ((k - 15))))), (5, .int (iI (s 9 0 ((k - 2))))), (4, .int (iI ((k : Int)))), (0, .ref (w.1 8 0))]) (Nat.le_of_ble_eq_true rfl) rfl (atL dAX1_spreadBlock_1 12 rfl) ?_
      refine v_iload hX 1 rfl (atL dAX1_spreadBlock_1 13 rfl) ?_
      refine v_bipush hX (by decide +kernel) (atL dAX1_spreadBlock_1 14 rfl) ?_
      refine v_callS hX (As := [.int (iI (s 9 0 ((k - 2)))), .int (iI (17))]) (rest := []) (c_X1_turned (xl X) w s (iI (s 9 0 (k - 2))) 17) lk_X1_76 rfl (by rw [hR]; exact ⟨Nat.le_of_ble_eq_true rfl, Nat.le_of_ble_eq_true rfl⟩) ⟨Nat.zero_le _, Nat.zero_le _⟩ rfl (Nat.le_of_ble_eq_true rfl) (atL dAX1_spreadBlock_1 15 rfl) (fun q129 z129 g129 => ?_)
      obtain ⟨g129a, g129b⟩ := g129
      rw [g129b]
      rw [show wI q129 = some (.int (rt (iI (s 9 0 (k - 2))) 17)) from congrArg (fun z => some (Value.int z)) g129a]
      show V X _ w _ _ s [.int (rt (iI (s 9 0 (k - 2))) 17)]
      refine v_iload hX 1 rfl (atL dAX1_spreadBlock_1 16 rfl) ?_
      refine v_bipush hX (by decide +kernel) (atL dAX1_spreadBlock_1 17 rfl) ?_
      refine v_callS hX (As := [.int (iI (s 9 0 ((k - 2)))), .int (iI (19))]) (rest := [.int (rt (iI (s 9 0 (k - 2))) 17)]) (c_X1_turned (xl X) w s (iI (s 9 0 (k - 2))) 19) lk_X1_76 rfl (by rw [hR]; exact ⟨Nat.le_of_ble_eq_true rfl, Nat.le_of_ble_eq_true rfl⟩) ⟨Nat.zero_le _, Nat.zero_le _⟩ rfl (Nat.le_of_ble_eq_true rfl) (atL dAX1_spreadBlock_1 18 rfl) (fun q136 z136 g136 => ?_)
      obtain ⟨g136a, g136b⟩ := g136
      rw [g136b]
      rw [show wI q136 = some (.int (rt (iI (s 9 0 (k - 2))) 19)) from congrArg (fun z => some (Value.int z)) g136a]
      show V X _ w _ _ s [.int (rt (iI (s 9 0 (k - 2))) 19), .int (rt (iI (s 9 0 (k - 2))) 17)]
      refine v_ixor hX (r := (rt (iI (s 9 0 (k - 2))) 17) ^^^ (rt (iI (s 9 0 (k - 2))) 19)) rfl (atL dAX1_spreadBlock_1 19 rfl) ?_
      refine v_iload hX 1 rfl (atL dAX1_spreadBlock_1 20 rfl) ?_
      refine v_bipush hX (by decide +kernel) (atL dAX1_spreadBlock_1 21 rfl) ?_
      refine v_iushr hX (r := us (iI (s 9 0 ((k - 2)))) (iI (10))) rfl (atL dAX1_spreadBlock_1 22 rfl) ?_
      refine v_ixor hX (r := ((rt (iI (s 9 0 (k - 2))) 17) ^^^ (rt (iI (s 9 0 (k - 2))) 19)) ^^^ (us (iI (s 9 0 ((k - 2)))) (iI (10)))) rfl (atL dAX1_spreadBlock_1 23 rfl) ?_
      refine v_istore hX (lv' := [(7, .int (((rt (iI (s 9 0 (k - 2))) 17) ^^^ (rt (iI (s 9 0 (k - 2))) 19)) ^^^ (us (iI (s 9 0 ((k - 2)))) (iI (10))))), (6, .int (iI (s 9 0 ((k - 15))))), (5, .int (iI (s 9 0 ((k - 2))))), (4, .int (iI ((k : Int)))), (0, .ref (w.1 8 0))]) (Nat.le_of_ble_eq_true rfl) rfl (atL dAX1_spreadBlock_1 24 rfl) ?_
      refine v_iload hX 1 rfl (atL dAX1_spreadBlock_1 25 rfl) ?_
      refine v_bipush hX (by decide +kernel) (atL dAX1_spreadBlock_1 26 rfl) ?_
      refine v_callS hX (As := [.int (iI (s 9 0 ((k - 15)))), .int (iI (7))]) (rest := []) (c_X1_turned (xl X) w s (iI (s 9 0 (k - 15))) 7) lk_X1_76 rfl (by rw [hR]; exact ⟨Nat.le_of_ble_eq_true rfl, Nat.le_of_ble_eq_true rfl⟩) ⟨Nat.zero_le _, Nat.zero_le _⟩ rfl (Nat.le_of_ble_eq_true rfl) (atL dAX1_spreadBlock_1 27 rfl) (fun q152 z152 g152 => ?_)
      obtain ⟨g152a, g152b⟩ := g152
      rw [g152b]
      rw [show wI q152 = some (.int (rt (iI (s 9 0 (k - 15))) 7)) from congrArg (fun z => some (Value.int z)) g152a]
      show V X _ w _ _ s [.int (rt (iI (s 9 0 (k - 15))) 7)]
      refine v_iload hX 1 rfl (atL dAX1_spreadBlock_1 28 rfl) ?_
      refine v_bipush hX (by decide +kernel) (atL dAX1_spreadBlock_1 29 rfl) ?_
      refine v_callS hX (As := [.int (iI (s 9 0 ((k - 15)))), .int (iI (18))]) (rest := [.int (rt (iI (s 9 0 (k - 15))) 7)]) (c_X1_turned (xl X) w s (iI (s 9 0 (k - 15))) 18) lk_X1_76 rfl (by rw [hR]; exact ⟨Nat.le_of_ble_eq_true rfl, Nat.le_of_ble_eq_true rfl⟩) ⟨Nat.zero_le _, Nat.zero_le _⟩ rfl (Nat.le_of_ble_eq_true rfl) (atL dAX1_spreadBlock_1 30 rfl) (fun q159 z159 g159 => ?_)
      obtain ⟨g159a, g159b⟩ := g159
      rw [g159b]
      rw [show wI q159 = some (.int (rt (iI (s 9 0 (k - 15))) 18)) from congrArg (fun z => some (Value.int z)) g159a]
      show V X _ w _ _ s [.int (rt (iI (s 9 0 (k - 15))) 18), .int (rt (iI (s 9 0 (k - 15))) 7)]
      refine v_ixor hX (r := (rt (iI (s 9 0 (k - 15))) 7) ^^^ (rt (iI (s 9 0 (k - 15))) 18)) rfl (atL dAX1_spreadBlock_1 31 rfl) ?_
      refine v_iload hX 1 rfl (atL dAX1_spreadBlock_1 32 rfl) ?_
      refine v_iconst hX (atL dAX1_spreadBlock_1 33 rfl) ?_
      refine v_iushr hX (r := us (iI (s 9 0 ((k - 15)))) (iI (3))) rfl (atL dAX1_spreadBlock_1 34 rfl) ?_
      refine v_ixor hX (r := ((rt (iI (s 9 0 (k - 15))) 7) ^^^ (rt (iI (s 9 0 (k - 15))) 18)) ^^^ (us (iI (s 9 0 ((k - 15)))) (iI (3)))) rfl (atL dAX1_spreadBlock_1 35 rfl) ?_
      refine v_istore hX (lv' := [(8, .int (((rt (iI (s 9 0 (k - 15))) 7) ^^^ (rt (iI (s 9 0 (k - 15))) 18)) ^^^ (us (iI (s 9 0 ((k - 15)))) (iI (3))))), (7, .int (((rt (iI (s 9 0 (k - 2))) 17) ^^^ (rt (iI (s 9 0 (k - 2))) 19)) ^^^ (us (iI (s 9 0 ((k - 2)))) (iI (10))))), (6, .int (iI (s 9 0 ((k - 15))))), (5, .int (iI (s 9 0 ((k - 2))))), (4, .int (iI ((k : Int)))), (0, .ref (w.1 8 0))]) (Nat.le_of_ble_eq_true rfl) rfl (atL dAX1_spreadBlock_1 36 rfl) ?_
      refine v_aload_n hX 5 rfl (atL dAX1_spreadBlock_1 37 rfl) ?_
      refine gf_X1_11 hX hk0 (atL dAX1_spreadBlock_1 38 rfl) ?_
      refine v_iload hX 4 rfl (atL dAX1_spreadBlock_1 39 rfl) ?_
      refine v_iload hX 1 rfl (atL dAX1_spreadBlock_1 40 rfl) ?_
      refine v_aload_n hX 5 rfl (atL dAX1_spreadBlock_1 41 rfl) ?_
      refine gf_X1_11 hX hk0 (atL dAX1_spreadBlock_1 42 rfl) ?_
      refine v_iload hX 4 rfl (atL dAX1_spreadBlock_1 43 rfl) ?_
      refine v_bipush hX (by decide +kernel) (atL dAX1_spreadBlock_1 44 rfl) ?_
      refine v_isub hX (iI_sub _ _) (atL dAX1_spreadBlock_1 45 rfl) ?_
      refine v_iald hX (r := iI (s 9 0 ((k - 7)))) ((k - 7)) (hD9 0 (by simp [mn, tp])) (fun _ => rfl) (by omega) (show k - 7 < 64 by omega) (by decide) (congrArg iI (rfl)) (atL dAX1_spreadBlock_1 46 rfl) ?_
      refine v_iadd hX (r := (((rt (iI (s 9 0 (k - 2))) 17) ^^^ (rt (iI (s 9 0 (k - 2))) 19)) ^^^ (us (iI (s 9 0 ((k - 2)))) (iI (10)))) + (iI (s 9 0 ((k - 7))))) rfl (atL dAX1_spreadBlock_1 47 rfl) ?_
      refine v_iload hX 0 rfl (atL dAX1_spreadBlock_1 48 rfl) ?_
      refine v_iadd hX (r := ((((rt (iI (s 9 0 (k - 2))) 17) ^^^ (rt (iI (s 9 0 (k - 2))) 19)) ^^^ (us (iI (s 9 0 ((k - 2)))) (iI (10)))) + (iI (s 9 0 ((k - 7))))) + (((rt (iI (s 9 0 (k - 15))) 7) ^^^ (rt (iI (s 9 0 (k - 15))) 18)) ^^^ (us (iI (s 9 0 ((k - 15)))) (iI (3))))) rfl (atL dAX1_spreadBlock_1 49 rfl) ?_
      refine v_aload_n hX 5 rfl (atL dAX1_spreadBlock_1 50 rfl) ?_
      refine gf_X1_11 hX hk0 (atL dAX1_spreadBlock_1 51 rfl) ?_
      refine v_iload hX 4 rfl (atL dAX1_spreadBlock_1 52 rfl) ?_
      refine v_bipush hX (by decide +kernel) (atL dAX1_spreadBlock_1 53 rfl) ?_
      refine v_isub hX (iI_sub _ _) (atL dAX1_spreadBlock_1 54 rfl) ?_
      refine v_iald hX (r := iI (s 9 0 ((k - 16)))) ((k - 16)) (hD9 0 (by simp [mn, tp])) (fun _ => rfl) (by omega) (show k - 16 < 64 by omega) (by decide) (congrArg iI (rfl)) (atL dAX1_spreadBlock_1 55 rfl) ?_
      refine v_iadd hX (r := (((((rt (iI (s 9 0 (k - 2))) 17) ^^^ (rt (iI (s 9 0 (k - 2))) 19)) ^^^ (us (iI (s 9 0 ((k - 2)))) (iI (10)))) + (iI (s 9 0 ((k - 7))))) + (((rt (iI (s 9 0 (k - 15))) 7) ^^^ (rt (iI (s 9 0 (k - 15))) 18)) ^^^ (us (iI (s 9 0 ((k - 15)))) (iI (3))))) + (iI (s 9 0 ((k - 16))))) rfl (atL dAX1_spreadBlock_1 56 rfl) ?_
      refine v_iastR hX (c := 9) k (hD9 0 (by simp [mn, tp])) (by decide) (fun _ _ => rfl) rfl (show k < 64 by omega) (by decide) (atL dAX1_spreadBlock_1 57 rfl) ?_
      refine v_iinc hX (lv' := [(4, .int (iI (((k : Int)) + 1))), (8, .int (((rt (iI (s 9 0 (k - 15))) 7) ^^^ (rt (iI (s 9 0 (k - 15))) 18)) ^^^ (us (iI (s 9 0 ((k - 15)))) (iI (3))))), (7, .int (((rt (iI (s 9 0 (k - 2))) 17) ^^^ (rt (iI (s 9 0 (k - 2))) 19)) ^^^ (us (iI (s 9 0 ((k - 2)))) (iI (10))))), (6, .int (iI (s 9 0 ((k - 15))))), (5, .int (iI (s 9 0 ((k - 2))))), (0, .ref (w.1 8 0))]) 4 rfl (iI_add _ _) (Nat.le_of_ble_eq_true rfl) rfl (atL dAX1_spreadBlock_1 58 rfl) ?_
      refine v_goto hX (tgt := 95) (atL dAX1_spreadBlock_1 59 rfl) (by decide) ?_
      refine v_sub (lv' := [(4, .int (iI (((k : Int)) + 1))), (0, .ref (w.1 8 0))]) [0, 5] rfl ?_
      rw [show (k : Int) + 1 = ((k + 1 : Nat) : Int) by omega]
      refine ih (k + 1) _ (by omega) (by omega) (fun j hj => ?_) (hf.tr' (Fr.su (by simp)))
      by_cases e : j = k
      · subst e
        rw [wf_s, sch_hi hk2, ← h2 (j - 2) (by omega), ← h2 (j - 7) (by omega), ← h2 (j - 15) (by omega), ← h2 (j - 16) (by omega)]
        rfl
      · rw [wf_j e, h2 j (by omega)]
  have l1 : ∀ (d k : Nat) (s : St), k + d = 16 → (∀ j, j < k → wf s 0 j = wdm (row σ o) s0 j) → Fr [(9, 0)] σ s → V X (0, 0) w 3 [(4, .int (iI ((k : Int)))), (0, .ref (w.1 8 0)), (1, .ref (w.1 1 o)), (2, .int (iI ((s0 : Int)))), (3, .int (iI (la)))] s [] := by
    intro d
    induction d with
    | zero =>
      intro k s hk h2 hf
      obtain rfl : k = 16 := by omega
      have hsl : s 0 o 0 = ((row σ o).length : Int) := by rw [← ho.len]; rw [hf 0 o (by simp)]
      refine v_iload hX 0 rfl (atL dAX1_spreadBlock_0 2 rfl) ?_
      refine v_bipush hX (by decide +kernel) (atL dAX1_spreadBlock_0 3 rfl) ?_
      refine v_icmp_ge hX ⟨by omega, by omega⟩ ⟨by omega, by omega⟩ (tgt := 73) (atL dAX1_spreadBlock_0 4 rfl) (by decide) (fun h7 => ?_) (fun h7 => absurd h7 (by omega))
      refine v_iload_n hX 4 rfl (atL dAX1_spreadBlock_0 44 rfl) ?_
      refine v_if_eq hX ⟨by omega, by omega⟩ (tgt := 91) (atL dAX1_spreadBlock_0 45 rfl) (by decide) (fun h74 => ?_) (fun h74 => ?_)
      · refine v_bipush hX (by decide +kernel) (atL dAX1_spreadBlock_0 54 rfl) ?_
        refine v_istore hX (lv' := [(4, .int (iI (16))), (0, .ref (w.1 8 0)), (1, .ref (w.1 1 o)), (2, .int (iI ((s0 : Int)))), (3, .int (iI (la)))]) (Nat.le_of_ble_eq_true rfl) rfl (atL dAX1_spreadBlock_0 55 rfl) ?_
        refine v_sub (lv' := [(4, .int (iI (16))), (0, .ref (w.1 8 0))]) [0, 1] rfl ?_
        refine l2 48 16 _ (by omega) (by omega) (fun j hj => ?_) hf
        rw [sch_lo hj, h2 j (by omega)]
        unfold blk
        rw [if_neg (by omega)]
      · refine v_aload_n hX 1 rfl (atL dAX1_spreadBlock_0 46 rfl) ?_
        refine gf_X1_11 hX hk0 (atL dAX1_spreadBlock_0 47 rfl) ?_
        refine v_bipush hX (by decide +kernel) (atL dAX1_spreadBlock_0 48 rfl) ?_
        refine v_aload_n hX 2 rfl (atL dAX1_spreadBlock_0 49 rfl) ?_
        refine gf_X1_33 hX (v := ((row σ o).length : Int)) (hsl) hov (atL dAX1_spreadBlock_0 50 rfl) ?_
        refine v_bipush hX (by decide +kernel) (atL dAX1_spreadBlock_0 51 rfl) ?_
        refine v_imul hX (iI_mul _ _) (atL dAX1_spreadBlock_0 52 rfl) ?_
        refine v_iast hX (c := 9) 15 (hD9 0 (by simp [mn, tp])) (by decide) (fun _ _ => rfl) rfl (by decide) (by decide) (atL dAX1_spreadBlock_0 53 rfl) ?_
        refine v_bipush hX (by decide +kernel) (atL dAX1_spreadBlock_0 54 rfl) ?_
        refine v_istore hX (lv' := [(4, .int (iI (16))), (0, .ref (w.1 8 0)), (1, .ref (w.1 1 o)), (2, .int (iI ((s0 : Int)))), (3, .int (iI (la)))]) (Nat.le_of_ble_eq_true rfl) rfl (atL dAX1_spreadBlock_0 55 rfl) ?_
        refine v_sub (lv' := [(4, .int (iI (16))), (0, .ref (w.1 8 0))]) [0, 1] rfl ?_
        refine l2 48 16 _ (by omega) (by omega) (fun j hj => ?_) (hf.tr' (Fr.su (by simp)))
        rw [sch_lo hj]
        by_cases e : j = 15
        · subst e
          show iI (su s 9 0 15 _ 9 0 15) = _
          rw [su_s]
          unfold blk
          rw [if_pos ⟨by omega, rfl⟩]
        · rw [wf_j e, h2 j (by omega)]
          unfold blk
          rw [if_neg (fun c => e c.2)]
    | succ d ih =>
      intro k s hk h2 hf
      have hos : okR s o := ho.fr hf (by simp) (by simp)
      have hrow : row s o = row σ o := row_fr hf (by simp) (by simp)
      refine v_iload hX 0 rfl (atL dAX1_spreadBlock_0 2 rfl) ?_
      refine v_bipush hX (by decide +kernel) (atL dAX1_spreadBlock_0 3 rfl) ?_
      refine v_icmp_ge hX ⟨by omega, by omega⟩ ⟨by omega, by omega⟩ (tgt := 73) (atL dAX1_spreadBlock_0 4 rfl) (by decide) (fun h7 => absurd h7 (by omega)) (fun h7 => ?_)
      refine v_iload_n hX 3 rfl (atL dAX1_spreadBlock_0 5 rfl) ?_
      refine v_iconst hX (atL dAX1_spreadBlock_0 6 rfl) ?_
      refine v_iload hX 0 rfl (atL dAX1_spreadBlock_0 7 rfl) ?_
      refine v_imul hX (iI_mul _ _) (atL dAX1_spreadBlock_0 8 rfl) ?_
      refine v_iadd hX (iI_add _ _) (atL dAX1_spreadBlock_0 9 rfl) ?_
      rw [show (((s0 : Int)) + (4 * ((k : Int)))) = ((s0 + 4 * k : Nat) : Int) from (by omega)]
      refine v_istore hX (lv' := [(5, .int (iI (((s0 + 4 * k : Nat) : Int)))), (4, .int (iI ((k : Int)))), (0, .ref (w.1 8 0)), (1, .ref (w.1 1 o)), (2, .int (iI ((s0 : Int)))), (3, .int (iI (la)))]) (Nat.le_of_ble_eq_true rfl) rfl (atL dAX1_spreadBlock_0 10 rfl) ?_
      refine v_aload_n hX 2 rfl (atL dAX1_spreadBlock_0 11 rfl) ?_
      refine gf_X1_11 hX hk0 (atL dAX1_spreadBlock_0 12 rfl) ?_
      refine v_iload hX 1 rfl (atL dAX1_spreadBlock_0 13 rfl) ?_
      refine v_aload_n hX 3 rfl (atL dAX1_spreadBlock_0 14 rfl) ?_
      refine v_iload hX 0 rfl (atL dAX1_spreadBlock_0 15 rfl) ?_
      refine v_callS hX (As := [.ref (w.1 1 o), .int (iI (((s0 + 4 * k : Nat) : Int)))]) (rest := [.int (iI ((k : Int))), .ref (w.1 9 0)]) (c_X1_padded (xl X) w s o hov hos (s0 + 4 * k) (by omega)) lk_X1_72 rfl (by rw [hR]; exact ⟨Nat.le_of_ble_eq_true rfl, Nat.le_of_ble_eq_true rfl⟩) ⟨Nat.zero_le _, Nat.zero_le _⟩ rfl (Nat.le_of_ble_eq_true rfl) (atL dAX1_spreadBlock_0 16 rfl) (fun q27 z27 g27 => ?_)
      obtain ⟨g27a, g27b⟩ := g27
      rw [g27b]
      rw [hrow] at g27a
      show V X _ w _ _ s [.int (iI (q27)), .int (iI ((k : Int))), .ref (w.1 9 0)]
      refine v_bipush hX (by decide +kernel) (atL dAX1_spreadBlock_0 17 rfl) ?_
      refine v_ishl hX (r := iI (q27 * 16777216)) (iI_shl _ 24 (by decide)) (atL dAX1_spreadBlock_0 18 rfl) ?_
      refine v_aload_n hX 3 rfl (atL dAX1_spreadBlock_0 19 rfl) ?_
      refine v_iload hX 0 rfl (atL dAX1_spreadBlock_0 20 rfl) ?_
      refine v_iconst hX (atL dAX1_spreadBlock_0 21 rfl) ?_
      refine v_iadd hX (iI_add _ _) (atL dAX1_spreadBlock_0 22 rfl) ?_
      rw [show ((((s0 + 4 * k : Nat) : Int)) + 1) = ((s0 + 4 * k + 1 : Nat) : Int) from (by omega)]
      refine v_callS hX (As := [.ref (w.1 1 o), .int (iI (((s0 + 4 * k + 1 : Nat) : Int)))]) (rest := [.int (iI (q27 * 16777216)), .int (iI ((k : Int))), .ref (w.1 9 0)]) (c_X1_padded (xl X) w s o hov hos (s0 + 4 * k + 1) (by omega)) lk_X1_72 rfl (by rw [hR]; exact ⟨Nat.le_of_ble_eq_true rfl, Nat.le_of_ble_eq_true rfl⟩) ⟨Nat.zero_le _, Nat.zero_le _⟩ rfl (Nat.le_of_ble_eq_true rfl) (atL dAX1_spreadBlock_0 23 rfl) (fun q38 z38 g38 => ?_)
      obtain ⟨g38a, g38b⟩ := g38
      rw [g38b]
      rw [hrow] at g38a
      show V X _ w _ _ s [.int (iI (q38)), .int (iI (q27 * 16777216)), .int (iI ((k : Int))), .ref (w.1 9 0)]
      refine v_bipush hX (by decide +kernel) (atL dAX1_spreadBlock_0 24 rfl) ?_
      refine v_ishl hX (r := iI (q38 * 65536)) (iI_shl _ 16 (by decide)) (atL dAX1_spreadBlock_0 25 rfl) ?_
      refine v_ior hX (r := (iI (q27 * 16777216)) ||| (iI (q38 * 65536))) rfl (atL dAX1_spreadBlock_0 26 rfl) ?_
      refine v_aload_n hX 3 rfl (atL dAX1_spreadBlock_0 27 rfl) ?_
      refine v_iload hX 0 rfl (atL dAX1_spreadBlock_0 28 rfl) ?_
      refine v_iconst hX (atL dAX1_spreadBlock_0 29 rfl) ?_
      refine v_iadd hX (iI_add _ _) (atL dAX1_spreadBlock_0 30 rfl) ?_
      rw [show ((((s0 + 4 * k : Nat) : Int)) + 2) = ((s0 + 4 * k + 2 : Nat) : Int) from (by omega)]
      refine v_callS hX (As := [.ref (w.1 1 o), .int (iI (((s0 + 4 * k + 2 : Nat) : Int)))]) (rest := [.int ((iI (q27 * 16777216)) ||| (iI (q38 * 65536))), .int (iI ((k : Int))), .ref (w.1 9 0)]) (c_X1_padded (xl X) w s o hov hos (s0 + 4 * k + 2) (by omega)) lk_X1_72 rfl (by rw [hR]; exact ⟨Nat.le_of_ble_eq_true rfl, Nat.le_of_ble_eq_true rfl⟩) ⟨Nat.zero_le _, Nat.zero_le _⟩ rfl (Nat.le_of_ble_eq_true rfl) (atL dAX1_spreadBlock_0 31 rfl) (fun q50 z50 g50 => ?_)
      obtain ⟨g50a, g50b⟩ := g50
      rw [g50b]
      rw [hrow] at g50a
      show V X _ w _ _ s [.int (iI (q50)), .int ((iI (q27 * 16777216)) ||| (iI (q38 * 65536))), .int (iI ((k : Int))), .ref (w.1 9 0)]
      refine v_bipush hX (by decide +kernel) (atL dAX1_spreadBlock_0 32 rfl) ?_
      refine v_ishl hX (r := iI (q50 * 256)) (iI_shl _ 8 (by decide)) (atL dAX1_spreadBlock_0 33 rfl) ?_
      refine v_ior hX (r := ((iI (q27 * 16777216)) ||| (iI (q38 * 65536))) ||| (iI (q50 * 256))) rfl (atL dAX1_spreadBlock_0 34 rfl) ?_
      refine v_aload_n hX 3 rfl (atL dAX1_spreadBlock_0 35 rfl) ?_
      refine v_iload hX 0 rfl (atL dAX1_spreadBlock_0 36 rfl) ?_
      refine v_iconst hX (atL dAX1_spreadBlock_0 37 rfl) ?_
      refine v_iadd hX (iI_add _ _) (atL dAX1_spreadBlock_0 38 rfl) ?_
      rw [show ((((s0 + 4 * k : Nat) : Int)) + 3) = ((s0 + 4 * k + 3 : Nat) : Int) from (by omega)]
      refine v_callS hX (As := [.ref (w.1 1 o), .int (iI (((s0 + 4 * k + 3 : Nat) : Int)))]) (rest := [.int (((iI (q27 * 16777216)) ||| (iI (q38 * 65536))) ||| (iI (q50 * 256))), .int (iI ((k : Int))), .ref (w.1 9 0)]) (c_X1_padded (xl X) w s o hov hos (s0 + 4 * k + 3) (by omega)) lk_X1_72 rfl (by rw [hR]; exact ⟨Nat.le_of_ble_eq_true rfl, Nat.le_of_ble_eq_true rfl⟩) ⟨Nat.zero_le _, Nat.zero_le _⟩ rfl (Nat.le_of_ble_eq_true rfl) (atL dAX1_spreadBlock_0 39 rfl) (fun q62 z62 g62 => ?_)
      obtain ⟨g62a, g62b⟩ := g62
      rw [g62b]
      rw [hrow] at g62a
      show V X _ w _ _ s [.int (iI (q62)), .int (((iI (q27 * 16777216)) ||| (iI (q38 * 65536))) ||| (iI (q50 * 256))), .int (iI ((k : Int))), .ref (w.1 9 0)]
      refine v_ior hX (r := (((iI (q27 * 16777216)) ||| (iI (q38 * 65536))) ||| (iI (q50 * 256))) ||| (iI (q62))) rfl (atL dAX1_spreadBlock_0 40 rfl) ?_
      refine v_iastR hX (c := 9) k (hD9 0 (by simp [mn, tp])) (by decide) (fun _ _ => rfl) rfl (show k < 64 by omega) (by decide) (atL dAX1_spreadBlock_0 41 rfl) ?_
      refine v_iinc hX (lv' := [(4, .int (iI (((k : Int)) + 1))), (5, .int (iI (((s0 + 4 * k : Nat) : Int)))), (0, .ref (w.1 8 0)), (1, .ref (w.1 1 o)), (2, .int (iI ((s0 : Int)))), (3, .int (iI (la)))]) 1 rfl (iI_add _ _) (Nat.le_of_ble_eq_true rfl) rfl (atL dAX1_spreadBlock_0 42 rfl) ?_
      refine v_goto hX (tgt := 3) (atL dAX1_spreadBlock_0 43 rfl) (by decide) ?_
      refine v_sub (lv' := [(4, .int (iI (((k : Int)) + 1))), (0, .ref (w.1 8 0)), (1, .ref (w.1 1 o)), (2, .int (iI ((s0 : Int)))), (3, .int (iI (la)))]) [0, 2, 3, 4, 5] rfl ?_
      rw [show (k : Int) + 1 = ((k + 1 : Nat) : Int) by omega]
      refine ih (k + 1) _ (by omega) (fun j hj => ?_) (hf.tr' (Fr.su (by simp)))
      by_cases e : j = k
      · subst e
        rw [wf_s, g27a, g38a, g50a, g62a]
        rfl
      · rw [wf_j e, h2 j (by omega)]
  refine v_iconst hX (atL dAX1_spreadBlock_0 0 rfl) ?_
  refine v_istore hX (lv' := [(4, .int (iI (0))), (0, .ref (w.1 8 0)), (1, .ref (w.1 1 o)), (2, .int (iI ((s0 : Int)))), (3, .int (iI (la)))]) (Nat.le_of_ble_eq_true rfl) rfl (atL dAX1_spreadBlock_0 1 rfl) ?_
  exact l1 16 0 σ (by omega) (fun j hj => absurd hj (by omega)) Fr.rf

set_option maxHeartbeats 1000000 in
set_option maxRecDepth 100000 in
theorem c_X1_addDigest (l : Launch) (w : Wl) (σ : St) (hk0 : w.2 8 0) (h : Int) (hh : rI h) (o : Nat) (hov : w.2 1 o) (ho : okR σ o) (i : Nat) (hi : w.2 1 i) (ho2 : okR σ i) (hr : (row σ i).length + hl h ≤ rcap i) : Cn l yX1_addDigest cX1_addDigest 6 none 3 70 wN [.ref (w.1 8 0), .int (iI (h)), .ref (w.1 1 o), .ref (w.1 1 i)] w σ (fun _ σ' => RW σ' i (row σ i ++ sha h (row σ o)) ∧ Fr [(0, i), (1, i), (9, 0), (9, 1), (9, 2)] σ σ') := by
  refine Cn.of (own := RX1) (lv := [(0, .ref (w.1 8 0)), (1, .int (iI (h))), (2, .ref (w.1 1 o)), (3, .ref (w.1 1 i))]) (by decide +kernel) rfl (Nat.le_of_ble_eq_true rfl) rfl (fun X hX hxl hR hcl hret => ?_)
  subst hxl
  have hD9 : ∀ q, (9, q) ∈ mn σ 8 0 → w.2 9 q := fun q h => hcl 8 0 hk0 (9, q) h
  have hR1 : ∀ q, (1, q) ∈ mn σ 8 0 → w.2 1 q := fun q h => hcl 8 0 hk0 (1, q) h
  have hln := ho.len
  have hol := Nat.le_trans ho.cap (rcap_le o)
  have hll := hl_le h
  have hnb : nbl (row σ o) ≤ 6 := by unfold nbl; omega
  have l3 : ∀ (d k : Nat) (s : St), k + d = hl h → RW s i (row σ i ++ (sha h (row σ o)).take k) → (∀ j, j < 8 → wf s 1 j = shas h (row σ o) (nbl (row σ o)) j) → Fr [(0, i), (1, i), (9, 0), (9, 1), (9, 2)] σ s → V X (0, 0) w 103 [(5, .int (iI ((k : Int)))), (4, .int (iI ((nbl (row σ o) : Int)))), (0, .ref (w.1 8 0)), (1, .int (iI (h))), (2, .ref (w.1 1 o)), (3, .ref (w.1 1 i))] s [] := by
    intro d
    induction d with
    | zero =>
      intro k s hk hr2 h1 hf
      obtain rfl : k = hl h := by omega
      refine v_iload hX 0 rfl (atL dAX1_addDigest_0 54 rfl) ?_
      refine v_iload_n hX 3 rfl (atL dAX1_addDigest_0 55 rfl) ?_
      refine v_callS hX (As := [.int (iI (h))]) (rest := [.int (iI ((hl h : Int)))]) (c_X1_lengthOf (xl X) w s h hh) lk_X1_50 rfl (by rw [hR]; exact ⟨Nat.le_of_ble_eq_true rfl, Nat.le_of_ble_eq_true rfl⟩) ⟨Nat.zero_le _, Nat.zero_le _⟩ rfl (Nat.le_of_ble_eq_true rfl) (atL dAX1_addDigest_0 56 rfl) (fun r1 s1 g1 => ?_)
      obtain ⟨g1a, g1b⟩ := g1
      rw [g1b]
      subst g1a
      show V X _ w _ _ s [.int (iI ((hl h : Int))), .int (iI ((hl h : Int)))]
      refine v_icmp_ge hX ⟨by omega, by omega⟩ ⟨by omega, by omega⟩ (tgt := 142) (atL dAX1_addDigest_0 57 rfl) (by decide) (fun h109 => ?_) (fun h109 => absurd h109 (by omega))
      exact v_vret hX (atL dAX1_addDigest_1 16 rfl) (hret () _ ⟨by rw [List.take_of_length_le (by rw [sha_len]; exact Nat.le_refl _)] at hr2; exact hr2, hf⟩)
    | succ d ih =>
      intro k s hk hr2 h1 hf
      have hkl : k < hl h := by omega
      have hlen : (row σ i ++ (sha h (row σ o)).take k).length = (row σ i).length + k := by rw [List.length_append, List.length_take, sha_len]; omega
      refine v_iload hX 0 rfl (atL dAX1_addDigest_0 54 rfl) ?_
      refine v_iload_n hX 3 rfl (atL dAX1_addDigest_0 55 rfl) ?_
      refine v_callS hX (As := [.int (iI (h))]) (rest := [.int (iI ((k : Int)))]) (c_X1_lengthOf (xl X) w s h hh) lk_X1_50 rfl (by rw [hR]; exact ⟨Nat.le_of_ble_eq_true rfl, Nat.le_of_ble_eq_true rfl⟩) ⟨Nat.zero_le _, Nat.zero_le _⟩ rfl (Nat.le_of_ble_eq_true rfl) (atL dAX1_addDigest_0 56 rfl) (fun r1 s1 g1 => ?_)
      obtain ⟨g1a, g1b⟩ := g1
      rw [g1b]
      subst g1a
      show V X _ w _ _ s [.int (iI ((hl h : Int))), .int (iI ((k : Int)))]
      refine v_icmp_ge hX ⟨by omega, by omega⟩ ⟨by omega, by omega⟩ (tgt := 142) (atL dAX1_addDigest_0 57 rfl) (by decide) (fun h109 => absurd h109 (by omega)) (fun h109 => ?_)
      refine v_aload_n hX 5 rfl (atL dAX1_addDigest_0 58 rfl) ?_
      refine v_aload_n hX 2 rfl (atL dAX1_addDigest_0 59 rfl) ?_
      refine gf_X1_15 hX hk0 (atL dAX1_addDigest_1 0 rfl) ?_
      refine v_iload hX 0 rfl (atL dAX1_addDigest_1 1 rfl) ?_
      refine v_iconst hX (atL dAX1_addDigest_1 2 rfl) ?_
      refine v_idiv hX (fun e0 => absurd ((iI_eq (b := 0) ⟨by omega, by omega⟩ ⟨by omega, by omega⟩).mp e0) (by omega)) (iI_div (by omega) (by omega) (by omega) (by omega)) (atL dAX1_addDigest_1 3 rfl) ?_
      refine v_iald hX (r := iI (s 9 1 ((k / 4)))) ((k / 4)) (hD9 1 (by simp [mn, tp])) (fun _ => rfl) (by omega) (show k / 4 < 8 by omega) (by decide) (congrArg iI (rfl)) (atL dAX1_addDigest_1 4 rfl) ?_
      refine v_bipush hX (by decide +kernel) (atL dAX1_addDigest_1 5 rfl) ?_
      refine v_iload hX 0 rfl (atL dAX1_addDigest_1 6 rfl) ?_
      refine v_iconst hX (atL dAX1_addDigest_1 7 rfl) ?_
      refine v_irem hX (fun e0 => absurd ((iI_eq (b := 0) ⟨by omega, by omega⟩ ⟨by omega, by omega⟩).mp e0) (by omega)) (iI_rem (by omega) (by omega) (by omega) (by omega)) (atL dAX1_addDigest_1 8 rfl) ?_
      rw [show (((k : Int)) % 4) = ((k % 4 : Nat) : Int) from (by omega)]
      refine v_bipush hX (by decide +kernel) (atL dAX1_addDigest_1 9 rfl) ?_
      refine v_imul hX (iI_mul _ _) (atL dAX1_addDigest_1 10 rfl) ?_
      refine v_isub hX (iI_sub _ _) (atL dAX1_addDigest_1 11 rfl) ?_
      refine v_ishr hX (r := iI ((wf s 1 (k / 4)).toInt / ((2 ^ (24 - 8 * (k % 4)) : Nat) : Int))) (dsh (iI (s 9 1 (k / 4))) (k % 4) (by omega)) (atL dAX1_addDigest_1 12 rfl) ?_
      refine v_callV hX (As := [.int (iI ((wf s 1 (k / 4)).toInt / ((2 ^ (24 - 8 * (k % 4)) : Nat) : Int)))]) (rest := []) (c_X4_add (xl X) w s i hi hr2.1 ((wf s 1 (k / 4)).toInt / ((2 ^ (24 - 8 * (k % 4)) : Nat) : Int)) (by rw [hr2.2, hlen]; omega)) lk_X1_54 hi (fun _ => rfl) rfl rfl rfl (by rw [hR]; exact ⟨Nat.le_of_ble_eq_true rfl, Nat.le_of_ble_eq_true rfl⟩) ⟨Nat.zero_le _, Nat.zero_le _⟩ rfl (Nat.le_of_ble_eq_true rfl) (atL dAX1_addDigest_1 13 rfl) (fun _ s2 e2 => ?_)
      rw [hr2.2, List.append_assoc, show ((wf s 1 (k / 4)).toInt / ((2 ^ (24 - 8 * (k % 4)) : Nat) : Int) % 256).toNat = (sha h (row σ o)).getD k 0 by rw [sha_get hkl, ← h1 (k / 4) (by omega)]; rfl, take_get (by rw [sha_len]; exact hkl)] at e2
      obtain ⟨hr3, hf3⟩ := RW_of hr2.1 e2 (by rw [List.length_append, List.length_take, sha_len]; omega) (ho2.by.app (BY.take sha_lt))
      show V X _ w _ _ s2 []
      refine v_iinc hX (lv' := [(5, .int (iI (((k : Int)) + 1))), (4, .int (iI ((nbl (row σ o) : Int)))), (0, .ref (w.1 8 0)), (1, .int (iI (h))), (2, .ref (w.1 1 o)), (3, .ref (w.1 1 i))]) 0 rfl (iI_add _ _) (Nat.le_of_ble_eq_true rfl) rfl (atL dAX1_addDigest_1 14 rfl) ?_
      refine v_goto hX (tgt := 103) (atL dAX1_addDigest_1 15 rfl) (by decide) ?_
      refine v_sub (lv' := [(5, .int (iI (((k : Int)) + 1))), (4, .int (iI ((nbl (row σ o) : Int)))), (0, .ref (w.1 8 0)), (1, .int (iI (h))), (2, .ref (w.1 1 o)), (3, .ref (w.1 1 i))]) [0, 1, 2, 3, 4, 5] rfl ?_
      rw [show (k : Int) + 1 = ((k + 1 : Nat) : Int) by omega]
      refine ih (k + 1) s2 (by omega) hr3 (fun j hj => ?_) (hf.tr' (hf3.mono (by simp)))
      rw [wf_fr hf3 (by simp), h1 j hj]
  have l2 : ∀ (d k : Nat) (s : St), k + d = nbl (row σ o) → (∀ j, j < 8 → wf s 1 j = shas h (row σ o) k j) → Fr [(9, 0), (9, 1), (9, 2)] σ s → V X (0, 0) w 59 [(5, .int (iI ((k : Int)))), (4, .int (iI ((nbl (row σ o) : Int)))), (0, .ref (w.1 8 0)), (1, .int (iI (h))), (2, .ref (w.1 1 o)), (3, .ref (w.1 1 i))] s [] := by
    intro d
    induction d with
    | zero =>
      intro k s hk h1 hf
      obtain rfl : k = nbl (row σ o) := by omega
      refine v_iload hX 0 rfl (atL dAX1_addDigest_0 31 rfl) ?_
      refine v_iload hX 1 rfl (atL dAX1_addDigest_0 32 rfl) ?_
      refine v_icmp_ge hX ⟨by omega, by omega⟩ ⟨by omega, by omega⟩ (tgt := 100) (atL dAX1_addDigest_0 33 rfl) (by decide) (fun h63 => ?_) (fun h63 => absurd h63 (by omega))
      refine v_iconst hX (atL dAX1_addDigest_0 52 rfl) ?_
      refine v_istore hX (lv' := [(5, .int (iI (0))), (4, .int (iI ((nbl (row σ o) : Int)))), (0, .ref (w.1 8 0)), (1, .int (iI (h))), (2, .ref (w.1 1 o)), (3, .ref (w.1 1 i))]) (Nat.le_of_ble_eq_true rfl) rfl (atL dAX1_addDigest_0 53 rfl) ?_
      refine v_sub (lv' := [(5, .int (iI (0))), (4, .int (iI ((nbl (row σ o) : Int)))), (0, .ref (w.1 8 0)), (1, .int (iI (h))), (2, .ref (w.1 1 o)), (3, .ref (w.1 1 i))]) [0, 1, 2, 3, 4, 5] rfl ?_
      exact l3 (hl h) 0 s (by omega) (by rw [List.take_zero, List.append_nil]; exact (RW.self ho2).fr hf (by simp) (by simp)) h1 (hf.mono (by simp))
    | succ d ih =>
      intro k s hk h1 hf
      have hos : okR s o := ho.fr hf (by simp) (by simp)
      have hrow : row s o = row σ o := row_fr hf (by simp) (by simp)
      refine v_iload hX 0 rfl (atL dAX1_addDigest_0 31 rfl) ?_
      refine v_iload hX 1 rfl (atL dAX1_addDigest_0 32 rfl) ?_
      refine v_icmp_ge hX ⟨by omega, by omega⟩ ⟨by omega, by omega⟩ (tgt := 100) (atL dAX1_addDigest_0 33 rfl) (by decide) (fun h63 => absurd h63 (by omega)) (fun h63 => ?_)
      refine v_aload_n hX 2 rfl (atL dAX1_addDigest_0 34 rfl) ?_
      refine v_aload_n hX 4 rfl (atL dAX1_addDigest_0 35 rfl) ?_
      refine v_iload hX 0 rfl (atL dAX1_addDigest_0 36 rfl) ?_
      refine v_bipush hX (by decide +kernel) (atL dAX1_addDigest_0 37 rfl) ?_
      refine v_imul hX (iI_mul _ _) (atL dAX1_addDigest_0 38 rfl) ?_
      rw [show (((k : Int)) * 64) = ((64 * k : Nat) : Int) from (by omega)]
      refine v_iload hX 0 rfl (atL dAX1_addDigest_0 39 rfl) ?_
      refine v_iload hX 1 rfl (atL dAX1_addDigest_0 40 rfl) ?_
      refine v_iconst hX (atL dAX1_addDigest_0 41 rfl) ?_
      refine v_isub hX (iI_sub _ _) (atL dAX1_addDigest_0 42 rfl) ?_
      refine v_icmp_ne hX ⟨by omega, by omega⟩ ⟨by omega, by omega⟩ (tgt := 86) (atL dAX1_addDigest_0 43 rfl) (by decide) (fun h79 => ?_) (fun h79 => ?_)
      · refine v_iconst hX (atL dAX1_addDigest_0 46 rfl) ?_
        refine v_callV hX (As := [.ref (w.1 1 o), .int (iI (((64 * k : Nat) : Int))), .int (iI (0))]) (rest := []) (c_X1_spreadBlock (xl X) w s hk0 o hov hos (64 * k) (by omega) 0 (by decide)) lk_X1_43 hk0 (fun _ => rfl) rfl rfl rfl (by rw [hR]; exact ⟨Nat.le_of_ble_eq_true rfl, Nat.le_of_ble_eq_true rfl⟩) ⟨Nat.zero_le _, Nat.zero_le _⟩ rfl (Nat.le_of_ble_eq_true rfl) (atL dAX1_addDigest_0 47 rfl) (fun _ s2 h2 => ?_)
        obtain ⟨h2a, h2f⟩ := h2
        show V X _ w _ _ s2 []
        refine v_aload_n hX 2 rfl (atL dAX1_addDigest_0 48 rfl) ?_
        refine v_callV hX (As := []) (rest := []) (c_X1_mixBlock (xl X) w s2 hk0) lk_X1_47 hk0 (fun _ => rfl) rfl rfl rfl (by rw [hR]; exact ⟨Nat.le_of_ble_eq_true rfl, Nat.le_of_ble_eq_true rfl⟩) ⟨Nat.zero_le _, Nat.zero_le _⟩ rfl (Nat.le_of_ble_eq_true rfl) (atL dAX1_addDigest_0 49 rfl) (fun _ s3 h3 => ?_)
        obtain ⟨h3a, h3f⟩ := h3
        show V X _ w _ _ s3 []
        refine v_iinc hX (lv' := [(5, .int (iI (((k : Int)) + 1))), (4, .int (iI ((nbl (row σ o) : Int)))), (0, .ref (w.1 8 0)), (1, .int (iI (h))), (2, .ref (w.1 1 o)), (3, .ref (w.1 1 i))]) 0 rfl (iI_add _ _) (Nat.le_of_ble_eq_true rfl) rfl (atL dAX1_addDigest_0 50 rfl) ?_
        refine v_goto hX (tgt := 59) (atL dAX1_addDigest_0 51 rfl) (by decide) ?_
        refine v_sub (lv' := [(5, .int (iI (((k : Int)) + 1))), (4, .int (iI ((nbl (row σ o) : Int)))), (0, .ref (w.1 8 0)), (1, .int (iI (h))), (2, .ref (w.1 1 o)), (3, .ref (w.1 1 i))]) [0, 1, 2, 3, 4, 5] rfl ?_
        rw [show (k : Int) + 1 = ((k + 1 : Nat) : Int) by omega]
        refine ih (k + 1) s3 (by omega) (fun j hj => ?_) ((hf.tr' (h2f.mono (by simp))).tr' (h3f.mono (by simp)))
        rw [h3a j hj]
        show _ = shas h (row σ o) k j + rnds KR (sch (blk (row σ o) (64 * k) (k + 1 = nbl (row σ o)))) (shas h (row σ o) k) 64 j
        have e1 : ∀ j, j < 8 → wf s2 1 j = shas h (row σ o) k j := fun j hj => by rw [wf_fr h2f (by simp), h1 j hj]
        rw [e1 j hj, rnds_congr (W' := sch (blk (row σ o) (64 * k) (k + 1 = nbl (row σ o)))) e1 (fun _ _ => rfl) (fun q hq => by rw [h2a q hq, hrow]; exact sch_congr (fun p _ => blk_iff ⟨fun c => absurd c (by decide), fun c => absurd c (by omega)⟩) q) 64 (by omega) j hj]
      · refine v_iconst hX (atL dAX1_addDigest_0 44 rfl) ?_
        refine v_goto hX (tgt := 87) (atL dAX1_addDigest_0 45 rfl) (by decide) ?_
        refine v_callV hX (As := [.ref (w.1 1 o), .int (iI (((64 * k : Nat) : Int))), .int (iI (1))]) (rest := []) (c_X1_spreadBlock (xl X) w s hk0 o hov hos (64 * k) (by omega) 1 (by decide)) lk_X1_43 hk0 (fun _ => rfl) rfl rfl rfl (by rw [hR]; exact ⟨Nat.le_of_ble_eq_true rfl, Nat.le_of_ble_eq_true rfl⟩) ⟨Nat.zero_le _, Nat.zero_le _⟩ rfl (Nat.le_of_ble_eq_true rfl) (atL dAX1_addDigest_0 47 rfl) (fun _ s2 h2 => ?_)
        obtain ⟨h2a, h2f⟩ := h2
        show V X _ w _ _ s2 []
        refine v_aload_n hX 2 rfl (atL dAX1_addDigest_0 48 rfl) ?_
        refine v_callV hX (As := []) (rest := []) (c_X1_mixBlock (xl X) w s2 hk0) lk_X1_47 hk0 (fun _ => rfl) rfl rfl rfl (by rw [hR]; exact ⟨Nat.le_of_ble_eq_true rfl, Nat.le_of_ble_eq_true rfl⟩) ⟨Nat.zero_le _, Nat.zero_le _⟩ rfl (Nat.le_of_ble_eq_true rfl) (atL dAX1_addDigest_0 49 rfl) (fun _ s3 h3 => ?_)
        obtain ⟨h3a, h3f⟩ := h3
        show V X _ w _ _ s3 []
        refine v_iinc hX (lv' := [(5, .int (iI (((k : Int)) + 1))), (4, .int (iI ((nbl (row σ o) : Int)))), (0, .ref (w.1 8 0)), (1, .int (iI (h))), (2, .ref (w.1 1 o)), (3, .ref (w.1 1 i))]) 0 rfl (iI_add _ _) (Nat.le_of_ble_eq_true rfl) rfl (atL dAX1_addDigest_0 50 rfl) ?_
        refine v_goto hX (tgt := 59) (atL dAX1_addDigest_0 51 rfl) (by decide) ?_
        refine v_sub (lv' := [(5, .int (iI (((k : Int)) + 1))), (4, .int (iI ((nbl (row σ o) : Int)))), (0, .ref (w.1 8 0)), (1, .int (iI (h))), (2, .ref (w.1 1 o)), (3, .ref (w.1 1 i))]) [0, 1, 2, 3, 4, 5] rfl ?_
        rw [show (k : Int) + 1 = ((k + 1 : Nat) : Int) by omega]
        refine ih (k + 1) s3 (by omega) (fun j hj => ?_) ((hf.tr' (h2f.mono (by simp))).tr' (h3f.mono (by simp)))
        rw [h3a j hj]
        show _ = shas h (row σ o) k j + rnds KR (sch (blk (row σ o) (64 * k) (k + 1 = nbl (row σ o)))) (shas h (row σ o) k) 64 j
        have e1 : ∀ j, j < 8 → wf s2 1 j = shas h (row σ o) k j := fun j hj => by rw [wf_fr h2f (by simp), h1 j hj]
        rw [e1 j hj, rnds_congr (W' := sch (blk (row σ o) (64 * k) (k + 1 = nbl (row σ o)))) e1 (fun _ _ => rfl) (fun q hq => by rw [h2a q hq, hrow]; exact sch_congr (fun p _ => blk_iff ⟨fun _ => by omega, fun _ => rfl⟩) q) 64 (by omega) j hj]
  have l1 : ∀ (d k : Nat) (s : St), k + d = 8 → (∀ j, j < k → wf s 1 j = sha0 h j) → Fr [(9, 1)] σ s → V X (0, 0) w 17 [(5, .int (iI ((k : Int)))), (4, .int (iI ((nbl (row σ o) : Int)))), (0, .ref (w.1 8 0)), (1, .int (iI (h))), (2, .ref (w.1 1 o)), (3, .ref (w.1 1 i))] s [] := by
    intro d
    induction d with
    | zero =>
      intro k s hk h1 hf
      obtain rfl : k = 8 := by omega
      refine v_iload hX 0 rfl (atL dAX1_addDigest_0 11 rfl) ?_
      refine v_bipush hX (by decide +kernel) (atL dAX1_addDigest_0 12 rfl) ?_
      refine v_icmp_ge hX ⟨by omega, by omega⟩ ⟨by omega, by omega⟩ (tgt := 56) (atL dAX1_addDigest_0 13 rfl) (by decide) (fun h21 => ?_) (fun h21 => absurd h21 (by omega))
      refine v_iconst hX (atL dAX1_addDigest_0 29 rfl) ?_
      refine v_istore hX (lv' := [(5, .int (iI (0))), (4, .int (iI ((nbl (row σ o) : Int)))), (0, .ref (w.1 8 0)), (1, .int (iI (h))), (2, .ref (w.1 1 o)), (3, .ref (w.1 1 i))]) (Nat.le_of_ble_eq_true rfl) rfl (atL dAX1_addDigest_0 30 rfl) ?_
      refine v_sub (lv' := [(5, .int (iI (0))), (4, .int (iI ((nbl (row σ o) : Int)))), (0, .ref (w.1 8 0)), (1, .int (iI (h))), (2, .ref (w.1 1 o)), (3, .ref (w.1 1 i))]) [0, 1, 2, 3, 4, 5] rfl ?_
      exact l2 (nbl (row σ o)) 0 s (by omega) h1 (hf.mono (by simp))
    | succ d ih =>
      intro k s hk h1 hf
      refine v_iload hX 0 rfl (atL dAX1_addDigest_0 11 rfl) ?_
      refine v_bipush hX (by decide +kernel) (atL dAX1_addDigest_0 12 rfl) ?_
      refine v_icmp_ge hX ⟨by omega, by omega⟩ ⟨by omega, by omega⟩ (tgt := 56) (atL dAX1_addDigest_0 13 rfl) (by decide) (fun h21 => absurd h21 (by omega)) (fun h21 => ?_)
      refine v_aload_n hX 2 rfl (atL dAX1_addDigest_0 14 rfl) ?_
      refine gf_X1_15 hX hk0 (atL dAX1_addDigest_0 15 rfl) ?_
      refine v_iload hX 0 rfl (atL dAX1_addDigest_0 16 rfl) ?_
      refine v_iload_n hX 3 rfl (atL dAX1_addDigest_0 17 rfl) ?_
      refine v_if_ne hX hh (tgt := 43) (atL dAX1_addDigest_0 18 rfl) (by decide) (fun h31 => ?_) (fun h31 => ?_)
      · refine v_gets hX 2 (by decide) wd_640 rfl (atL dAX1_addDigest_0 23 rfl) (fun t43 hT43 => ?_)
        refine v_iload hX 0 rfl (atL dAX1_addDigest_0 24 rfl) ?_
        refine v_sald hX k hT43 rfl (show k < 8 by omega) (by decide) rfl (atL dAX1_addDigest_0 25 rfl) ?_
        refine v_iast hX (c := 9) k (hD9 1 (by simp [mn, tp])) (by decide) (fun _ _ => rfl) rfl (show k < 8 by omega) (by decide) (atL dAX1_addDigest_0 26 rfl) ?_
        refine v_iinc hX (lv' := [(5, .int (iI (((k : Int)) + 1))), (4, .int (iI ((nbl (row σ o) : Int)))), (0, .ref (w.1 8 0)), (1, .int (iI (h))), (2, .ref (w.1 1 o)), (3, .ref (w.1 1 i))]) 0 rfl (iI_add _ _) (Nat.le_of_ble_eq_true rfl) rfl (atL dAX1_addDigest_0 27 rfl) ?_
        refine v_goto hX (tgt := 17) (atL dAX1_addDigest_0 28 rfl) (by decide) ?_
        refine v_sub (lv' := [(5, .int (iI (((k : Int)) + 1))), (4, .int (iI ((nbl (row σ o) : Int)))), (0, .ref (w.1 8 0)), (1, .int (iI (h))), (2, .ref (w.1 1 o)), (3, .ref (w.1 1 i))]) [0, 1, 2, 3, 4, 5] rfl ?_
        rw [show (k : Int) + 1 = ((k + 1 : Nat) : Int) by omega]
        refine ih (k + 1) _ (by omega) (fun j hj => ?_) (hf.tr' (Fr.su (by simp)))
        by_cases e : j = k
        · subst e
          show iI (su s 9 1 j _ 9 1 j) = _
          rw [su_s]
          unfold sha0
          rw [if_neg (by omega)]
        · rw [wf_j e, h1 j (by omega)]
      · refine v_gets hX 1 (by decide) wd_638 rfl (atL dAX1_addDigest_0 19 rfl) (fun t34 hT34 => ?_)
        refine v_iload hX 0 rfl (atL dAX1_addDigest_0 20 rfl) ?_
        refine v_sald hX k hT34 rfl (show k < 8 by omega) (by decide) rfl (atL dAX1_addDigest_0 21 rfl) ?_
        refine v_goto hX (tgt := 49) (atL dAX1_addDigest_0 22 rfl) (by decide) ?_
        refine v_iast hX (c := 9) k (hD9 1 (by simp [mn, tp])) (by decide) (fun _ _ => rfl) rfl (show k < 8 by omega) (by decide) (atL dAX1_addDigest_0 26 rfl) ?_
        refine v_iinc hX (lv' := [(5, .int (iI (((k : Int)) + 1))), (4, .int (iI ((nbl (row σ o) : Int)))), (0, .ref (w.1 8 0)), (1, .int (iI (h))), (2, .ref (w.1 1 o)), (3, .ref (w.1 1 i))]) 0 rfl (iI_add _ _) (Nat.le_of_ble_eq_true rfl) rfl (atL dAX1_addDigest_0 27 rfl) ?_
        refine v_goto hX (tgt := 17) (atL dAX1_addDigest_0 28 rfl) (by decide) ?_
        refine v_sub (lv' := [(5, .int (iI (((k : Int)) + 1))), (4, .int (iI ((nbl (row σ o) : Int)))), (0, .ref (w.1 8 0)), (1, .int (iI (h))), (2, .ref (w.1 1 o)), (3, .ref (w.1 1 i))]) [0, 1, 2, 3, 4, 5] rfl ?_
        rw [show (k : Int) + 1 = ((k + 1 : Nat) : Int) by omega]
        refine ih (k + 1) _ (by omega) (fun j hj => ?_) (hf.tr' (Fr.su (by simp)))
        by_cases e : j = k
        · subst e
          show iI (su s 9 1 j _ 9 1 j) = _
          rw [su_s]
          unfold sha0
          rw [if_pos (by omega)]
        · rw [wf_j e, h1 j (by omega)]
  refine v_aload_n hX 2 rfl (atL dAX1_addDigest_0 0 rfl) ?_
  refine gf_X1_33 hX (v := ((row σ o).length : Int)) (hln) hov (atL dAX1_addDigest_0 1 rfl) ?_
  refine v_bipush hX (by decide +kernel) (atL dAX1_addDigest_0 2 rfl) ?_
  refine v_iadd hX (iI_add _ _) (atL dAX1_addDigest_0 3 rfl) ?_
  refine v_bipush hX (by decide +kernel) (atL dAX1_addDigest_0 4 rfl) ?_
  refine v_idiv hX (fun e0 => absurd ((iI_eq (b := 0) ⟨by omega, by omega⟩ ⟨by omega, by omega⟩).mp e0) (by omega)) (iI_div (by omega) (by omega) (by omega) (by omega)) (atL dAX1_addDigest_0 5 rfl) ?_
  refine v_iconst hX (atL dAX1_addDigest_0 6 rfl) ?_
  refine v_iadd hX (iI_add _ _) (atL dAX1_addDigest_0 7 rfl) ?_
  rw [show ((((((row σ o).length : Int)) + 8) / 64) + 1) = (nbl (row σ o) : Int) from (by unfold nbl; omega)]
  refine v_istore hX (lv' := [(4, .int (iI ((nbl (row σ o) : Int)))), (0, .ref (w.1 8 0)), (1, .int (iI (h))), (2, .ref (w.1 1 o)), (3, .ref (w.1 1 i))]) (Nat.le_of_ble_eq_true rfl) rfl (atL dAX1_addDigest_0 8 rfl) ?_
  refine v_iconst hX (atL dAX1_addDigest_0 9 rfl) ?_
  refine v_istore hX (lv' := [(5, .int (iI (0))), (4, .int (iI ((nbl (row σ o) : Int)))), (0, .ref (w.1 8 0)), (1, .int (iI (h))), (2, .ref (w.1 1 o)), (3, .ref (w.1 1 i))]) (Nat.le_of_ble_eq_true rfl) rfl (atL dAX1_addDigest_0 10 rfl) ?_
  exact l1 8 0 σ (by omega) (fun j hj => absurd hj (by omega)) Fr.rf
