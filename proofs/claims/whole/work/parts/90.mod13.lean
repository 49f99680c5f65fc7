set_option maxHeartbeats 1000000 in
set_option maxRecDepth 100000 in
theorem c_X8_thrown (l : Launch) (w : Wl) (σ : St) (hk0 : w.2 13 0) : Cn l yX8_thrown cX8_thrown 1 (Option.some Jvm.ClassFile.FieldType.int) 0 0 wI [.ref (w.1 13 0)] w σ (fun a σ' => a = σ 10 0 0 ∧ σ' = σ) := by
  refine Cn.of (own := RX8) (lv := [(0, .ref (w.1 13 0))]) (by decide +kernel) rfl (Nat.le_of_ble_eq_true rfl) rfl (fun X hX hxl hR hcl hret => ?_)
  subst hxl
  refine v_aload_n hX 0 rfl (atL dAX8_thrown_0 0 rfl) ?_
  refine gf_X8_156 hX (v := σ 10 0 0) (rfl) hk0 (atL dAX8_thrown_0 1 rfl) ?_
  exact v_iret hX (atL dAX8_thrown_0 2 rfl) (hret _ _ ⟨rfl, rfl⟩)

set_option maxHeartbeats 1000000 in
set_option maxRecDepth 100000 in
theorem c_X8_keys (l : Launch) (w : Wl) (σ : St) (hk0 : w.2 13 0) : Cn l yX8_keys cX8_keys 1 (Option.some Jvm.ClassFile.FieldType.int) 0 0 wI [.ref (w.1 13 0)] w σ (fun a σ' => a = σ 10 0 5 ∧ σ' = su σ 10 0 0 0) := by
  refine Cn.of (own := RX8) (lv := [(0, .ref (w.1 13 0))]) (by decide +kernel) rfl (Nat.le_of_ble_eq_true rfl) rfl (fun X hX hxl hR hcl hret => ?_)
  subst hxl
  refine v_aload_n hX 0 rfl (atL dAX8_keys_0 0 rfl) ?_
  refine v_iconst hX (atL dAX8_keys_0 1 rfl) ?_
  refine pf_X8_156 hX hk0 (atL dAX8_keys_0 2 rfl) ?_
  refine v_aload_n hX 0 rfl (atL dAX8_keys_0 3 rfl) ?_
  refine gf_X8_358 hX (v := σ 10 0 5) ((su_j (by decide)).trans (rfl)) hk0 (atL dAX8_keys_0 4 rfl) ?_
  exact v_iret hX (atL dAX8_keys_0 5 rfl) (hret _ _ ⟨rfl, rfl⟩)
