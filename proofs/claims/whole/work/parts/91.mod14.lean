set_option maxHeartbeats 1000000 in
set_option maxRecDepth 100000 in
theorem c_X8_across (l : Launch) (w : Wl) (σ : St) (x : Int32) (k : Int) : Cn l yX8_across cX8_across 2 (Option.some Jvm.ClassFile.FieldType.int) 0 0 wI [.int (x), .int (iI (k))] w σ (fun a σ' => iI a = rt x k ∧ σ' = σ) := by
  refine Cn.of (own := RX8) (lv := [(0, .int (x)), (1, .int (iI (k)))]) (by decide +kernel) rfl (Nat.le_of_ble_eq_true rfl) rfl (fun X hX hxl hR hcl hret => ?_)
  subst hxl
  refine v_iload_n hX 0 rfl (atL dAX8_across_0 0 rfl) ?_
  refine v_iload_n hX 1 rfl (atL dAX8_across_0 1 rfl) ?_
  refine v_iushr hX (r := us x (iI (k))) rfl (atL dAX8_across_0 2 rfl) ?_
  refine v_iload_n hX 0 rfl (atL dAX8_across_0 3 rfl) ?_
  refine v_bipush hX (by decide +kernel) (atL dAX8_across_0 4 rfl) ?_
  refine v_iload_n hX 1 rfl (atL dAX8_across_0 5 rfl) ?_
  refine v_isub hX (iI_sub _ _) (atL dAX8_across_0 6 rfl) ?_
  refine v_ishl hX (r := x <<< ((iI (32 - k)) &&& 31)) rfl (atL dAX8_across_0 7 rfl) ?_
  refine v_ior hX (r := (us x (iI (k))) ||| (x <<< ((iI (32 - k)) &&& 31))) rfl (atL dAX8_across_0 8 rfl) ?_
  have hret2 := hret (Int32.toInt (us x (iI k) ||| x <<< (iI (32 - k) &&& 31))) σ ⟨iI_of _, rfl⟩
  rw [show wI (Int32.toInt (us x (iI k) ||| x <<< (iI (32 - k) &&& 31))) = some (.int (us x (iI k) ||| x <<< (iI (32 - k) &&& 31))) by show some (Value.int (iI _)) = _; rw [iI_of]] at hret2
  exact v_iret hX (atL dAX8_across_0 9 rfl) hret2

set_option maxHeartbeats 1000000 in
set_option maxRecDepth 100000 in
theorem c_X8_isKey (l : Launch) (w : Wl) (σ : St) (hk0 : w.2 13 0) (k : Int) (hk : rI k) (n : Nat) (hn : σ 10 0 5 = (n : Int)) (hn16 : n ≤ 16) : Cn l yX8_isKey cX8_isKey 2 (Option.some Jvm.ClassFile.FieldType.boolean) 0 0 wI [.ref (w.1 13 0), .int (iI (k))] w σ (fun a σ' => (a = 1 ∧ (0 ≤ k ∧ k < (n : Int)) ∧ σ' = σ) ∨ (a = 0 ∧ ¬ (0 ≤ k ∧ k < (n : Int)) ∧ σ' = su σ 10 0 0 1)) := by
  refine Cn.of (own := RX8) (lv := [(0, .ref (w.1 13 0)), (1, .int (iI (k)))]) (by decide +kernel) rfl (Nat.le_of_ble_eq_true rfl) rfl (fun X hX hxl hR hcl hret => ?_)
  subst hxl
  by_cases c : 0 ≤ k ∧ k < (n : Int)
  · skip
    refine v_iload_n hX 1 rfl (atL dAX8_isKey_0 0 rfl) ?_
    refine v_if_lt hX hk (tgt := 12) (atL dAX8_isKey_0 1 rfl) (by decide) (fun h1 => absurd h1 (by omega)) (fun h1 => ?_)
    refine v_iload_n hX 1 rfl (atL dAX8_isKey_0 2 rfl) ?_
    refine v_aload_n hX 0 rfl (atL dAX8_isKey_0 3 rfl) ?_
    refine gf_X8_358 hX (v := (n : Int)) (hn) hk0 (atL dAX8_isKey_0 4 rfl) ?_
    refine v_icmp_lt hX hk ⟨by omega, by omega⟩ (tgt := 17) (atL dAX8_isKey_0 5 rfl) (by decide) (fun h9 => ?_) (fun h9 => absurd h9 (by omega))
    refine v_iload_n hX 1 rfl (atL dAX8_isKey_0 9 rfl) ?_
    refine v_if_lt hX hk (tgt := 33) (atL dAX8_isKey_0 10 rfl) (by decide) (fun h18 => absurd h18 (by omega)) (fun h18 => ?_)
    refine v_iload_n hX 1 rfl (atL dAX8_isKey_0 11 rfl) ?_
    refine v_aload_n hX 0 rfl (atL dAX8_isKey_0 12 rfl) ?_
    refine gf_X8_358 hX (v := (n : Int)) (hn) hk0 (atL dAX8_isKey_0 13 rfl) ?_
    refine v_icmp_ge hX hk ⟨by omega, by omega⟩ (tgt := 33) (atL dAX8_isKey_0 14 rfl) (by decide) (fun h26 => absurd h26 (by omega)) (fun h26 => ?_)
    refine v_iconst hX (atL dAX8_isKey_0 15 rfl) ?_
    refine v_goto hX (tgt := 34) (atL dAX8_isKey_0 16 rfl) (by decide) ?_
    exact v_zret hX (by decide +kernel) (atL dAX8_isKey_0 18 rfl) (hret _ _ (Or.inl ⟨rfl, c, rfl⟩))
  · rcases (show k < 0 ∨ (n : Int) ≤ k by omega) with d | d
    · skip
      refine v_iload_n hX 1 rfl (atL dAX8_isKey_0 0 rfl) ?_
      refine v_if_lt hX hk (tgt := 12) (atL dAX8_isKey_0 1 rfl) (by decide) (fun h1 => ?_) (fun h1 => absurd h1 (by omega))
      refine v_aload_n hX 0 rfl (atL dAX8_isKey_0 6 rfl) ?_
      refine v_iconst hX (atL dAX8_isKey_0 7 rfl) ?_
      refine pf_X8_156 hX hk0 (atL dAX8_isKey_0 8 rfl) ?_
      refine v_iload_n hX 1 rfl (atL dAX8_isKey_0 9 rfl) ?_
      refine v_if_lt hX hk (tgt := 33) (atL dAX8_isKey_0 10 rfl) (by decide) (fun h18 => ?_) (fun h18 => absurd h18 (by omega))
      refine v_iconst hX (atL dAX8_isKey_0 17 rfl) ?_
      exact v_zret hX (by decide +kernel) (atL dAX8_isKey_0 18 rfl) (hret _ _ (Or.inr ⟨rfl, c, rfl⟩))
    · rcases (show k < 0 ∨ 0 ≤ k by omega) with d2 | d2
      · skip
        refine v_iload_n hX 1 rfl (atL dAX8_isKey_0 0 rfl) ?_
        refine v_if_lt hX hk (tgt := 12) (atL dAX8_isKey_0 1 rfl) (by decide) (fun h1 => ?_) (fun h1 => absurd h1 (by omega))
        refine v_aload_n hX 0 rfl (atL dAX8_isKey_0 6 rfl) ?_
        refine v_iconst hX (atL dAX8_isKey_0 7 rfl) ?_
        refine pf_X8_156 hX hk0 (atL dAX8_isKey_0 8 rfl) ?_
        refine v_iload_n hX 1 rfl (atL dAX8_isKey_0 9 rfl) ?_
        refine v_if_lt hX hk (tgt := 33) (atL dAX8_isKey_0 10 rfl) (by decide) (fun h18 => ?_) (fun h18 => absurd h18 (by omega))
        refine v_iconst hX (atL dAX8_isKey_0 17 rfl) ?_
        exact v_zret hX (by decide +kernel) (atL dAX8_isKey_0 18 rfl) (hret _ _ (Or.inr ⟨rfl, c, rfl⟩))
      · skip
        refine v_iload_n hX 1 rfl (atL dAX8_isKey_0 0 rfl) ?_
        refine v_if_lt hX hk (tgt := 12) (atL dAX8_isKey_0 1 rfl) (by decide) (fun h1 => absurd h1 (by omega)) (fun h1 => ?_)
        refine v_iload_n hX 1 rfl (atL dAX8_isKey_0 2 rfl) ?_
        refine v_aload_n hX 0 rfl (atL dAX8_isKey_0 3 rfl) ?_
        refine gf_X8_358 hX (v := (n : Int)) (hn) hk0 (atL dAX8_isKey_0 4 rfl) ?_
        refine v_icmp_lt hX hk ⟨by omega, by omega⟩ (tgt := 17) (atL dAX8_isKey_0 5 rfl) (by decide) (fun h9 => absurd h9 (by omega)) (fun h9 => ?_)
        refine v_aload_n hX 0 rfl (atL dAX8_isKey_0 6 rfl) ?_
        refine v_iconst hX (atL dAX8_isKey_0 7 rfl) ?_
        refine pf_X8_156 hX hk0 (atL dAX8_isKey_0 8 rfl) ?_
        refine v_iload_n hX 1 rfl (atL dAX8_isKey_0 9 rfl) ?_
        refine v_if_lt hX hk (tgt := 33) (atL dAX8_isKey_0 10 rfl) (by decide) (fun h18 => absurd h18 (by omega)) (fun h18 => ?_)
        refine v_iload_n hX 1 rfl (atL dAX8_isKey_0 11 rfl) ?_
        refine v_aload_n hX 0 rfl (atL dAX8_isKey_0 12 rfl) ?_
        refine gf_X8_358 hX (v := (n : Int)) ((su_j (by decide)).trans (hn)) hk0 (atL dAX8_isKey_0 13 rfl) ?_
        refine v_icmp_ge hX hk ⟨by omega, by omega⟩ (tgt := 33) (atL dAX8_isKey_0 14 rfl) (by decide) (fun h26 => ?_) (fun h26 => absurd h26 (by omega))
        refine v_iconst hX (atL dAX8_isKey_0 17 rfl) ?_
        exact v_zret hX (by decide +kernel) (atL dAX8_isKey_0 18 rfl) (hret _ _ (Or.inr ⟨rfl, c, rfl⟩))
