theorem su_su {σ : St} {c i j : Nat} {v u : Int} : su (su σ c i j v) c i j u = su σ c i j u := by
  funext a b d
  unfold su
  by_cases h : a = c ∧ b = i ∧ d = j
  · rw [if_pos h, if_pos h]
  · rw [if_neg h, if_neg h, if_neg h]


set_option maxHeartbeats 1000000 in
set_option maxRecDepth 100000 in
theorem c_X8_isSlot (l : Launch) (w : Wl) (σ : St) (hk0 : w.2 13 0) (k : Int) (hk : rI k) : Cn l yX8_isSlot cX8_isSlot 2 (Option.some Jvm.ClassFile.FieldType.boolean) 0 0 wI [.ref (w.1 13 0), .int (iI (k))] w σ (fun a σ' => (a = 1 ∧ isS k ∧ σ' = σ) ∨ (a = 0 ∧ ¬ isS k ∧ σ' = su σ 10 0 0 1)) := by
  refine Cn.of (own := RX8) (lv := [(0, .ref (w.1 13 0)), (1, .int (iI (k)))]) (by decide +kernel) rfl (Nat.le_of_ble_eq_true rfl) rfl (fun X hX hxl hR hcl hret => ?_)
  subst hxl
  by_cases c : isS k
  · skip
    refine v_iload_n hX 1 rfl (atL dAX8_isSlot_0 0 rfl) ?_
    refine v_if_lt hX hk (tgt := 10) (atL dAX8_isSlot_0 1 rfl) (by decide) (fun h1 => absurd h1 (by omega)) (fun h1 => ?_)
    refine v_iload_n hX 1 rfl (atL dAX8_isSlot_0 2 rfl) ?_
    refine v_bipush hX (by decide +kernel) (atL dAX8_isSlot_0 3 rfl) ?_
    refine v_icmp_le hX hk ⟨by omega, by omega⟩ (tgt := 15) (atL dAX8_isSlot_0 4 rfl) (by decide) (fun h7 => ?_) (fun h7 => absurd h7 (by omega))
    refine v_iload_n hX 1 rfl (atL dAX8_isSlot_0 8 rfl) ?_
    refine v_if_lt hX hk (tgt := 29) (atL dAX8_isSlot_0 9 rfl) (by decide) (fun h16 => absurd h16 (by omega)) (fun h16 => ?_)
    refine v_iload_n hX 1 rfl (atL dAX8_isSlot_0 10 rfl) ?_
    refine v_bipush hX (by decide +kernel) (atL dAX8_isSlot_0 11 rfl) ?_
    refine v_icmp_ge hX hk ⟨by omega, by omega⟩ (tgt := 29) (atL dAX8_isSlot_0 12 rfl) (by decide) (fun h22 => absurd h22 (by omega)) (fun h22 => ?_)
    refine v_iconst hX (atL dAX8_isSlot_0 13 rfl) ?_
    refine v_goto hX (tgt := 30) (atL dAX8_isSlot_0 14 rfl) (by decide) ?_
    exact v_zret hX (by decide +kernel) (atL dAX8_isSlot_0 16 rfl) (hret _ _ (Or.inl ⟨rfl, c, rfl⟩))
  · rcases (show k < 0 ∨ 23 < k by omega) with d | d
    · skip
      refine v_iload_n hX 1 rfl (atL dAX8_isSlot_0 0 rfl) ?_
      refine v_if_lt hX hk (tgt := 10) (atL dAX8_isSlot_0 1 rfl) (by decide) (fun h1 => ?_) (fun h1 => absurd h1 (by omega))
      refine v_aload_n hX 0 rfl (atL dAX8_isSlot_0 5 rfl) ?_
      refine v_iconst hX (atL dAX8_isSlot_0 6 rfl) ?_
      refine pf_X8_156 hX hk0 (atL dAX8_isSlot_0 7 rfl) ?_
      refine v_iload_n hX 1 rfl (atL dAX8_isSlot_0 8 rfl) ?_
      refine v_if_lt hX hk (tgt := 29) (atL dAX8_isSlot_0 9 rfl) (by decide) (fun h16 => ?_) (fun h16 => absurd h16 (by omega))
      refine v_iconst hX (atL dAX8_isSlot_0 15 rfl) ?_
      exact v_zret hX (by decide +kernel) (atL dAX8_isSlot_0 16 rfl) (hret _ _ (Or.inr ⟨rfl, c, rfl⟩))
    · skip
      refine v_iload_n hX 1 rfl (atL dAX8_isSlot_0 0 rfl) ?_
      refine v_if_lt hX hk (tgt := 10) (atL dAX8_isSlot_0 1 rfl) (by decide) (fun h1 => absurd h1 (by omega)) (fun h1 => ?_)
      refine v_iload_n hX 1 rfl (atL dAX8_isSlot_0 2 rfl) ?_
      refine v_bipush hX (by decide +kernel) (atL dAX8_isSlot_0 3 rfl) ?_
      refine v_icmp_le hX hk ⟨by omega, by omega⟩ (tgt := 15) (atL dAX8_isSlot_0 4 rfl) (by decide) (fun h7 => absurd h7 (by omega)) (fun h7 => ?_)
      refine v_aload_n hX 0 rfl (atL dAX8_isSlot_0 5 rfl) ?_
      refine v_iconst hX (atL dAX8_isSlot_0 6 rfl) ?_
      refine pf_X8_156 hX hk0 (atL dAX8_isSlot_0 7 rfl) ?_
      refine v_iload_n hX 1 rfl (atL dAX8_isSlot_0 8 rfl) ?_
      refine v_if_lt hX hk (tgt := 29) (atL dAX8_isSlot_0 9 rfl) (by decide) (fun h16 => absurd h16 (by omega)) (fun h16 => ?_)
      refine v_iload_n hX 1 rfl (atL dAX8_isSlot_0 10 rfl) ?_
      refine v_bipush hX (by decide +kernel) (atL dAX8_isSlot_0 11 rfl) ?_
      refine v_icmp_ge hX hk ⟨by omega, by omega⟩ (tgt := 29) (atL dAX8_isSlot_0 12 rfl) (by decide) (fun h22 => ?_) (fun h22 => absurd h22 (by omega))
      refine v_iconst hX (atL dAX8_isSlot_0 15 rfl) ?_
      exact v_zret hX (by decide +kernel) (atL dAX8_isSlot_0 16 rfl) (hret _ _ (Or.inr ⟨rfl, c, rfl⟩))

set_option maxHeartbeats 1000000 in
set_option maxRecDepth 100000 in
theorem c_X8_bad (l : Launch) (w : Wl) (σ : St) (hk0 : w.2 13 0) (b : Int) (hb : b = 0 ∨ b = 1) : Cn l yX8_bad cX8_bad 2 (Option.some Jvm.ClassFile.FieldType.boolean) 0 0 wI [.ref (w.1 13 0), .int (iI (b))] w σ (fun a σ' => a = b ∧ ((b = 0 ∧ σ' = σ) ∨ (b = 1 ∧ σ' = su σ 10 0 0 2))) := by
  refine Cn.of (own := RX8) (lv := [(0, .ref (w.1 13 0)), (1, .int (iI (b)))]) (by decide +kernel) rfl (Nat.le_of_ble_eq_true rfl) rfl (fun X hX hxl hR hcl hret => ?_)
  subst hxl
  refine v_iload_n hX 1 rfl (atL dAX8_bad_0 0 rfl) ?_
  refine v_if_eq hX ⟨by omega, by omega⟩ (tgt := 9) (atL dAX8_bad_0 1 rfl) (by decide) (fun h1 => ?_) (fun h1 => ?_)
  · refine v_iload_n hX 1 rfl (atL dAX8_bad_0 5 rfl) ?_
    exact v_zret hX (by rcases hb with e | e <;> subst e <;> decide +kernel) (atL dAX8_bad_0 6 rfl) (hret _ _ ⟨rfl, Or.inl ⟨by omega, rfl⟩⟩)
  · refine v_aload_n hX 0 rfl (atL dAX8_bad_0 2 rfl) ?_
    refine v_iconst hX (atL dAX8_bad_0 3 rfl) ?_
    refine pf_X8_156 hX hk0 (atL dAX8_bad_0 4 rfl) ?_
    refine v_iload_n hX 1 rfl (atL dAX8_bad_0 5 rfl) ?_
    exact v_zret hX (by rcases hb with e | e <;> subst e <;> decide +kernel) (atL dAX8_bad_0 6 rfl) (hret _ _ ⟨rfl, Or.inr ⟨by omega, rfl⟩⟩)

set_option maxHeartbeats 1000000 in
set_option maxRecDepth 100000 in
theorem c_X8_long0 (l : Launch) (w : Wl) (σ : St) (h : Int) (hh : rI h) : Cn l yX8_long0 cX8_long0 1 (Option.some Jvm.ClassFile.FieldType.int) 0 0 wI [.int (iI (h))] w σ (fun a σ' => a = (hl h : Int) ∧ σ' = σ) := by
  refine Cn.of (own := RX8) (lv := [(0, .int (iI (h)))]) (by decide +kernel) rfl (Nat.le_of_ble_eq_true rfl) rfl (fun X hX hxl hR hcl hret => ?_)
  subst hxl
  refine v_iload_n hX 0 rfl (atL dAX8_long0_0 0 rfl) ?_
  refine v_if_ne hX hh (tgt := 9) (atL dAX8_long0_0 1 rfl) (by decide) (fun h1 => ?_) (fun h1 => ?_)
  · refine v_bipush hX (by decide +kernel) (atL dAX8_long0_0 4 rfl) ?_
    exact v_iret hX (atL dAX8_long0_0 5 rfl) (hret _ _ ⟨by unfold hl; rw [if_neg (by omega)]; rfl, rfl⟩)
  · refine v_bipush hX (by decide +kernel) (atL dAX8_long0_0 2 rfl) ?_
    refine v_goto hX (tgt := 11) (atL dAX8_long0_0 3 rfl) (by decide) ?_
    exact v_iret hX (atL dAX8_long0_0 5 rfl) (hret _ _ ⟨by unfold hl; rw [if_pos (by omega)]; rfl, rfl⟩)

set_option maxHeartbeats 1000000 in
set_option maxRecDepth 100000 in
theorem c_X8_anew (l : Launch) (w : Wl) (σ : St) (hk0 : w.2 13 0) : Cn l yX8_anew cX8_anew 1 none 0 0 wN [.ref (w.1 13 0)] w σ (fun _ σ' => σ' = su σ 10 0 2 0) := by
  refine Cn.of (own := RX8) (lv := [(0, .ref (w.1 13 0))]) (by decide +kernel) rfl (Nat.le_of_ble_eq_true rfl) rfl (fun X hX hxl hR hcl hret => ?_)
  subst hxl
  refine v_aload_n hX 0 rfl (atL dAX8_anew_0 0 rfl) ?_
  refine v_iconst hX (atL dAX8_anew_0 1 rfl) ?_
  refine pf_X8_248 hX hk0 (atL dAX8_anew_0 2 rfl) ?_
  exact v_vret hX (atL dAX8_anew_0 3 rfl) (hret () _ rfl)
