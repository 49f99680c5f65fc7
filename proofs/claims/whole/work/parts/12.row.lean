theorem dAX4_init_0 : ([(0, .aload_n 0, 1, 1), (1, .invokespecial 1, 3, 4), (4, .aload_n 0, 1, 5), (5, .iload_n 1, 1, 6), (6, .ifCond .ge 7, 3, 9), (9, .iconst 0, 1, 10), (10, .goto 4, 3, 13), (13, .iload_n 1, 1, 14), (14, .newarray .byte, 2, 16), (16, .putfield 7, 3, 19), (19, .aload_n 0, 1, 20), (20, .iconst 0, 1, 21), (21, .putfield 13, 3, 24), (24, .return_, 1, 25)] : List (Nat × Instr × Nat × Nat)).all (fun q => decide (decode cX4_init q.1 = .ok (q.2.1, q.2.2.1)) && q.2.2.2 == q.1 + q.2.2.1) = true := by decide +kernel
theorem dAX4_has_0 : ([(0, .iload_n 1, 1, 1), (1, .ifCond .lt 15, 3, 4), (4, .iload_n 1, 1, 5), (5, .aload_n 0, 1, 6), (6, .getfield 13, 3, 9), (9, .if_icmp .ge 7, 3, 12), (12, .iconst 1, 1, 13), (13, .goto 4, 3, 16), (16, .iconst 0, 1, 17), (17, .ireturn, 1, 18)] : List (Nat × Instr × Nat × Nat)).all (fun q => decide (decode cX4_has q.1 = .ok (q.2.1, q.2.2.1)) && q.2.2.2 == q.1 + q.2.2.1) = true := by decide +kernel
theorem dAX4_at_0 : ([(0, .iload_n 1, 1, 1), (1, .ifCond .lt 24, 3, 4), (4, .iload_n 1, 1, 5), (5, .aload_n 0, 1, 6), (6, .getfield 13, 3, 9), (9, .if_icmp .ge 16, 3, 12), (12, .aload_n 0, 1, 13), (13, .getfield 7, 3, 16), (16, .iload_n 1, 1, 17), (17, .baload, 1, 18), (18, .sipush 255, 3, 21), (21, .iand, 1, 22), (22, .goto 4, 3, 25), (25, .iconst 0, 1, 26), (26, .ireturn, 1, 27)] : List (Nat × Instr × Nat × Nat)).all (fun q => decide (decode cX4_at q.1 = .ok (q.2.1, q.2.2.1)) && q.2.2.2 == q.1 + q.2.2.1) = true := by decide +kernel
theorem dAX4_put_0 : ([(0, .iload_n 1, 1, 1), (1, .ifCond .lt 19, 3, 4), (4, .iload_n 1, 1, 5), (5, .aload_n 0, 1, 6), (6, .getfield 13, 3, 9), (9, .if_icmp .ge 11, 3, 12), (12, .aload_n 0, 1, 13), (13, .getfield 7, 3, 16), (16, .iload_n 1, 1, 17), (17, .iload_n 2, 1, 18), (18, .i2b, 1, 19), (19, .bastore, 1, 20), (20, .return_, 1, 21)] : List (Nat × Instr × Nat × Nat)).all (fun q => decide (decode cX4_put q.1 = .ok (q.2.1, q.2.2.1)) && q.2.2.2 == q.1 + q.2.2.1) = true := by decide +kernel
theorem dAX4_add_0 : ([(0, .aload_n 0, 1, 1), (1, .getfield 13, 3, 4), (4, .ifCond .lt 36, 3, 7), (7, .aload_n 0, 1, 8), (8, .getfield 13, 3, 11), (11, .aload_n 0, 1, 12), (12, .getfield 7, 3, 15), (15, .arraylength, 1, 16), (16, .if_icmp .ge 24, 3, 19), (19, .aload_n 0, 1, 20), (20, .getfield 7, 3, 23), (23, .aload_n 0, 1, 24), (24, .getfield 13, 3, 27), (27, .iload_n 1, 1, 28), (28, .i2b, 1, 29), (29, .bastore, 1, 30), (30, .aload_n 0, 1, 31), (31, .dup, 1, 32), (32, .getfield 13, 3, 35), (35, .iconst 1, 1, 36), (36, .iadd, 1, 37), (37, .putfield 13, 3, 40), (40, .return_, 1, 41)] : List (Nat × Instr × Nat × Nat)).all (fun q => decide (decode cX4_add q.1 = .ok (q.2.1, q.2.2.1)) && q.2.2.2 == q.1 + q.2.2.1) = true := by decide +kernel
theorem dAX4_addWord_0 : ([(0, .aload_n 0, 1, 1), (1, .iload_n 1, 1, 2), (2, .bipush 24, 2, 4), (4, .ishr, 1, 5), (5, .invokevirtual 17, 3, 8), (8, .aload_n 0, 1, 9), (9, .iload_n 1, 1, 10), (10, .bipush 16, 2, 12), (12, .ishr, 1, 13), (13, .invokevirtual 17, 3, 16), (16, .aload_n 0, 1, 17), (17, .iload_n 1, 1, 18), (18, .bipush 8, 2, 20), (20, .ishr, 1, 21), (21, .invokevirtual 17, 3, 24), (24, .aload_n 0, 1, 25), (25, .iload_n 1, 1, 26), (26, .invokevirtual 17, 3, 29), (29, .return_, 1, 30)] : List (Nat × Instr × Nat × Nat)).all (fun q => decide (decode cX4_addWord q.1 = .ok (q.2.1, q.2.2.1)) && q.2.2.2 == q.1 + q.2.2.1) = true := by decide +kernel
theorem dAX4_addTimes_0 : ([(0, .iconst 0, 1, 1), (1, .istore_n 3, 1, 2), (2, .iload_n 3, 1, 3), (3, .iload_n 2, 1, 4), (4, .if_icmp .ge 14, 3, 7), (7, .aload_n 0, 1, 8), (8, .iload_n 1, 1, 9), (9, .invokevirtual 17, 3, 12), (12, .iinc 3 1, 3, 15), (15, .goto (-13), 3, 18), (18, .return_, 1, 19)] : List (Nat × Instr × Nat × Nat)).all (fun q => decide (decode cX4_addTimes q.1 = .ok (q.2.1, q.2.2.1)) && q.2.2.2 == q.1 + q.2.2.1) = true := by decide +kernel
theorem dAX4_addPart_0 : ([(0, .iconst 0, 1, 1), (1, .istore 4, 2, 3), (3, .iload 4, 2, 5), (5, .iload_n 3, 1, 6), (6, .if_icmp .ge 21, 3, 9), (9, .aload_n 0, 1, 10), (10, .aload_n 1, 1, 11), (11, .iload_n 2, 1, 12), (12, .iload 4, 2, 14), (14, .iadd, 1, 15), (15, .invokevirtual 21, 3, 18), (18, .invokevirtual 17, 3, 21), (21, .iinc 4 1, 3, 24), (24, .goto (-21), 3, 27), (27, .return_, 1, 28)] : List (Nat × Instr × Nat × Nat)).all (fun q => decide (decode cX4_addPart q.1 = .ok (q.2.1, q.2.2.1)) && q.2.2.2 == q.1 + q.2.2.1) = true := by decide +kernel
theorem dAX4_addRow_0 : ([(0, .aload_n 0, 1, 1), (1, .aload_n 1, 1, 2), (2, .iconst 0, 1, 3), (3, .aload_n 1, 1, 4), (4, .getfield 13, 3, 7), (7, .invokevirtual 25, 3, 10), (10, .return_, 1, 11)] : List (Nat × Instr × Nat × Nat)).all (fun q => decide (decode cX4_addRow q.1 = .ok (q.2.1, q.2.2.1)) && q.2.2.2 == q.1 + q.2.2.1) = true := by decide +kernel
theorem dAX4_take_0 : ([(0, .aload_n 0, 1, 1), (1, .aload_n 1, 1, 2), (2, .iconst 0, 1, 3), (3, .aload_n 1, 1, 4), (4, .getfield 13, 3, 7), (7, .invokevirtual 29, 3, 10), (10, .return_, 1, 11)] : List (Nat × Instr × Nat × Nat)).all (fun q => decide (decode cX4_take q.1 = .ok (q.2.1, q.2.2.1)) && q.2.2.2 == q.1 + q.2.2.1) = true := by decide +kernel
theorem dAX4_takePart_0 : ([(0, .aload_n 0, 1, 1), (1, .iconst 0, 1, 2), (2, .putfield 13, 3, 5), (5, .aload_n 0, 1, 6), (6, .aload_n 1, 1, 7), (7, .iload_n 2, 1, 8), (8, .iload_n 3, 1, 9), (9, .invokevirtual 25, 3, 12), (12, .return_, 1, 13)] : List (Nat × Instr × Nat × Nat)).all (fun q => decide (decode cX4_takePart q.1 = .ok (q.2.1, q.2.2.1)) && q.2.2.2 == q.1 + q.2.2.1) = true := by decide +kernel
theorem dAX4_mixWith_0 : ([(0, .iconst 0, 1, 1), (1, .istore_n 2, 1, 2), (2, .iload_n 2, 1, 3), (3, .aload_n 0, 1, 4), (4, .getfield 13, 3, 7), (7, .if_icmp .ge 25, 3, 10), (10, .aload_n 0, 1, 11), (11, .iload_n 2, 1, 12), (12, .aload_n 0, 1, 13), (13, .iload_n 2, 1, 14), (14, .invokevirtual 21, 3, 17), (17, .aload_n 1, 1, 18), (18, .iload_n 2, 1, 19), (19, .invokevirtual 21, 3, 22), (22, .ixor, 1, 23), (23, .invokevirtual 32, 3, 26), (26, .iinc 2 1, 3, 29), (29, .goto (-27), 3, 32), (32, .return_, 1, 33)] : List (Nat × Instr × Nat × Nat)).all (fun q => decide (decode cX4_mixWith q.1 = .ok (q.2.1, q.2.2.1)) && q.2.2.2 == q.1 + q.2.2.1) = true := by decide +kernel
theorem dAX4_holds_0 : ([(0, .aload_n 1, 1, 1), (1, .getfield 13, 3, 4), (4, .aload_n 0, 1, 5), (5, .getfield 13, 3, 8), (8, .iload_n 2, 1, 9), (9, .isub, 1, 10), (10, .if_icmp .le 5, 3, 13), (13, .iconst 0, 1, 14), (14, .ireturn, 1, 15), (15, .iconst 0, 1, 16), (16, .istore_n 3, 1, 17), (17, .iload_n 3, 1, 18), (18, .aload_n 1, 1, 19), (19, .getfield 13, 3, 22), (22, .if_icmp .ge 26, 3, 25), (25, .aload_n 0, 1, 26), (26, .iload_n 2, 1, 27), (27, .iload_n 3, 1, 28), (28, .iadd, 1, 29), (29, .invokevirtual 21, 3, 32), (32, .aload_n 1, 1, 33), (33, .iload_n 3, 1, 34), (34, .invokevirtual 21, 3, 37), (37, .if_icmp .eq 5, 3, 40), (40, .iconst 0, 1, 41), (41, .ireturn, 1, 42), (42, .iinc 3 1, 3, 45), (45, .goto (-28), 3, 48), (48, .iconst 1, 1, 49), (49, .ireturn, 1, 50)] : List (Nat × Instr × Nat × Nat)).all (fun q => decide (decode cX4_holds q.1 = .ok (q.2.1, q.2.2.1)) && q.2.2.2 == q.1 + q.2.2.1) = true := by decide +kernel
theorem dAX4_othersFrom_0 : ([(0, .iload_n 1, 1, 1), (1, .istore_n 2, 1, 2), (2, .iload_n 2, 1, 3), (3, .aload_n 0, 1, 4), (4, .getfield 13, 3, 7), (7, .if_icmp .ge 21, 3, 10), (10, .aload_n 0, 1, 11), (11, .iload_n 2, 1, 12), (12, .invokevirtual 21, 3, 15), (15, .ifCond .ne 7, 3, 18), (18, .iload_n 2, 1, 19), (19, .iload_n 1, 1, 20), (20, .isub, 1, 21), (21, .ireturn, 1, 22), (22, .iinc 2 1, 3, 25), (25, .goto (-23), 3, 28), (28, .aload_n 0, 1, 29), (29, .getfield 13, 3, 32), (32, .iload_n 1, 1, 33), (33, .isub, 1, 34), (34, .ireturn, 1, 35)] : List (Nat × Instr × Nat × Nat)).all (fun q => decide (decode cX4_othersFrom q.1 = .ok (q.2.1, q.2.2.1)) && q.2.2.2 == q.1 + q.2.2.1) = true := by decide +kernel
theorem dAX4_zerosFrom_0 : ([(0, .iload_n 1, 1, 1), (1, .istore_n 2, 1, 2), (2, .iload_n 2, 1, 3), (3, .aload_n 0, 1, 4), (4, .getfield 13, 3, 7), (7, .if_icmp .ge 21, 3, 10), (10, .aload_n 0, 1, 11), (11, .iload_n 2, 1, 12), (12, .invokevirtual 21, 3, 15), (15, .ifCond .eq 7, 3, 18), (18, .iload_n 2, 1, 19), (19, .iload_n 1, 1, 20), (20, .isub, 1, 21), (21, .ireturn, 1, 22), (22, .iinc 2 1, 3, 25), (25, .goto (-23), 3, 28), (28, .aload_n 0, 1, 29), (29, .getfield 13, 3, 32), (32, .iload_n 1, 1, 33), (33, .isub, 1, 34), (34, .ireturn, 1, 35)] : List (Nat × Instr × Nat × Nat)).all (fun q => decide (decode cX4_zerosFrom q.1 = .ok (q.2.1, q.2.2.1)) && q.2.2.2 == q.1 + q.2.2.1) = true := by decide +kernel
set_option maxHeartbeats 4000000 in
set_option maxRecDepth 100000 in
theorem c_X4_has (l : Launch) (w : Wl) (σ : St) (i : Nat) (hi : w.2 1 i) (ho : okR σ i) (k : Int) (hk : rI k) : Cn l yX4_has cX4_has 2 (Option.some Jvm.ClassFile.FieldType.boolean) 0 0 wI [.ref (w.1 1 i), .int (iI (k))] w σ (fun a σ' => a = (if 0 ≤ k ∧ k < ((row σ i).length : Int) then 1 else 0) ∧ σ' = σ) := by
  refine Cn.of (own := RX4) (lv := [(0, .ref (w.1 1 i)), (1, .int (iI (k)))]) (by decide +kernel) rfl (Nat.le_of_ble_eq_true rfl) rfl (fun X hX hxl hR hcl hret => ?_)
  subst hxl
  have hi2 : w.2 2 i := hcl 1 i hi (2, i) (by simp [mn, tp])
  have hn := ho.len
  have hcp := ho.cap
  have hrc : rcap i ≤ 296 := by unfold rcap; split <;> (try split) <;> (try split) <;> (try split) <;> (try split) <;> (try split) <;> omega
  have hk1 : -2147483648 ≤ k := hk.1
  have hk2 : k < 2147483648 := hk.2
  refine v_iload_n hX 1 rfl (atL dAX4_has_0 0 rfl) ?_
  refine v_if_lt hX ⟨by omega, by omega⟩ (tgt := 16) (atL dAX4_has_0 1 rfl) (by decide) (fun h1 => ?_) (fun h1 => ?_)
  · refine v_iconst hX (atL dAX4_has_0 8 rfl) ?_
    exact v_zret hX (by decide +kernel) (atL dAX4_has_0 9 rfl) (hret _ _ ⟨by rw [if_neg (by omega)], rfl⟩)
  · refine v_iload_n hX 1 rfl (atL dAX4_has_0 2 rfl) ?_
    refine v_aload_n hX 0 rfl (atL dAX4_has_0 3 rfl) ?_
    refine gf_X4_13 hX (v := ((row σ i).length : Int)) (hn) hi (atL dAX4_has_0 4 rfl) ?_
    refine v_icmp_ge hX ⟨by omega, by omega⟩ ⟨by omega, by omega⟩ (tgt := 16) (atL dAX4_has_0 5 rfl) (by decide) (fun h9 => ?_) (fun h9 => ?_)
    · refine v_iconst hX (atL dAX4_has_0 8 rfl) ?_
      exact v_zret hX (by decide +kernel) (atL dAX4_has_0 9 rfl) (hret _ _ ⟨by rw [if_neg (by omega)], rfl⟩)
    · refine v_iconst hX (atL dAX4_has_0 6 rfl) ?_
      refine v_goto hX (tgt := 17) (atL dAX4_has_0 7 rfl) (by decide) ?_
      exact v_zret hX (by decide +kernel) (atL dAX4_has_0 9 rfl) (hret _ _ ⟨by rw [if_pos ⟨by omega, by omega⟩], rfl⟩)

set_option maxHeartbeats 4000000 in
set_option maxRecDepth 100000 in
theorem c_X4_at (l : Launch) (w : Wl) (σ : St) (i : Nat) (hi : w.2 1 i) (ho : okR σ i) (k : Int) (hk : rI k) : Cn l yX4_at cX4_at 2 (Option.some Jvm.ClassFile.FieldType.int) 0 0 wI [.ref (w.1 1 i), .int (iI (k))] w σ (fun a σ' => a = (if 0 ≤ k then (((row σ i).getD k.toNat 0 : Nat) : Int) else 0) ∧ σ' = σ) := by
  refine Cn.of (own := RX4) (lv := [(0, .ref (w.1 1 i)), (1, .int (iI (k)))]) (by decide +kernel) rfl (Nat.le_of_ble_eq_true rfl) rfl (fun X hX hxl hR hcl hret => ?_)
  subst hxl
  have hi2 : w.2 2 i := hcl 1 i hi (2, i) (by simp [mn, tp])
  have hn := ho.len
  have hcp := ho.cap
  have hrc : rcap i ≤ 296 := by unfold rcap; split <;> (try split) <;> (try split) <;> (try split) <;> (try split) <;> (try split) <;> omega
  have hk1 : -2147483648 ≤ k := hk.1
  have hk2 : k < 2147483648 := hk.2
  refine v_iload_n hX 1 rfl (atL dAX4_at_0 0 rfl) ?_
  refine v_if_lt hX ⟨by omega, by omega⟩ (tgt := 25) (atL dAX4_at_0 1 rfl) (by decide) (fun h1 => ?_) (fun h1 => ?_)
  · refine v_iconst hX (atL dAX4_at_0 13 rfl) ?_
    exact v_iret hX (atL dAX4_at_0 14 rfl) (hret _ _ ⟨by split <;> (try rw [gD_out (by omega)]) <;> rfl, rfl⟩)
  · refine v_iload_n hX 1 rfl (atL dAX4_at_0 2 rfl) ?_
    refine v_aload_n hX 0 rfl (atL dAX4_at_0 3 rfl) ?_
    refine gf_X4_13 hX (v := ((row σ i).length : Int)) (hn) hi (atL dAX4_at_0 4 rfl) ?_
    refine v_icmp_ge hX ⟨by omega, by omega⟩ ⟨by omega, by omega⟩ (tgt := 25) (atL dAX4_at_0 5 rfl) (by decide) (fun h9 => ?_) (fun h9 => ?_)
    · refine v_iconst hX (atL dAX4_at_0 13 rfl) ?_
      exact v_iret hX (atL dAX4_at_0 14 rfl) (hret _ _ ⟨by split <;> (try rw [gD_out (by omega)]) <;> rfl, rfl⟩)
    · refine v_aload_n hX 0 rfl (atL dAX4_at_0 6 rfl) ?_
      refine gf_X4_7 hX hi (atL dAX4_at_0 7 rfl) ?_
      refine v_iload_n hX 1 rfl (atL dAX4_at_0 8 rfl) ?_
      refine v_bald hX (r := bI (((row σ i).getD k.toNat 0 : Nat))) k.toNat hi2 (fun _ => rfl) (by omega) (by omega) (by omega) (congrArg bI (ho.get (by omega))) (atL dAX4_at_0 9 rfl) ?_
      refine v_sipush hX (by decide +kernel) (atL dAX4_at_0 10 rfl) ?_
      refine v_iand hX (bI_and _) (atL dAX4_at_0 11 rfl) ?_
      rw [show ((((row σ i).getD k.toNat 0 : Nat)) % 256) = (((row σ i).getD k.toNat 0 : Nat) : Int) from by have := ho.getlt k.toNat; omega]
      refine v_goto hX (tgt := 26) (atL dAX4_at_0 12 rfl) (by decide) ?_
      exact v_iret hX (atL dAX4_at_0 14 rfl) (hret _ _ ⟨by rw [if_pos (by omega)], rfl⟩)

set_option maxHeartbeats 4000000 in
set_option maxRecDepth 100000 in
theorem c_X4_put (l : Launch) (w : Wl) (σ : St) (i : Nat) (hi : w.2 1 i) (ho : okR σ i) (k v : Int) (hk : rI k) : Cn l yX4_put cX4_put 3 none 0 0 wN [.ref (w.1 1 i), .int (iI (k)), .int (iI (v))] w σ (fun _ σ' => σ' = if 0 ≤ k ∧ k < ((row σ i).length : Int) then sr σ i ((row σ i).set k.toNat (v % 256).toNat) else σ) := by
  refine Cn.of (own := RX4) (lv := [(0, .ref (w.1 1 i)), (1, .int (iI (k))), (2, .int (iI (v)))]) (by decide +kernel) rfl (Nat.le_of_ble_eq_true rfl) rfl (fun X hX hxl hR hcl hret => ?_)
  subst hxl
  have hi2 : w.2 2 i := hcl 1 i hi (2, i) (by simp [mn, tp])
  have hn := ho.len
  have hcp := ho.cap
  have hrc : rcap i ≤ 296 := by unfold rcap; split <;> (try split) <;> (try split) <;> (try split) <;> (try split) <;> (try split) <;> omega
  have hk1 : -2147483648 ≤ k := hk.1
  have hk2 : k < 2147483648 := hk.2
  refine v_iload_n hX 1 rfl (atL dAX4_put_0 0 rfl) ?_
  refine v_if_lt hX ⟨by omega, by omega⟩ (tgt := 20) (atL dAX4_put_0 1 rfl) (by decide) (fun h1 => ?_) (fun h1 => ?_)
  · exact v_vret hX (atL dAX4_put_0 12 rfl) (hret () _ (by rw [if_neg (by omega)]))
  · refine v_iload_n hX 1 rfl (atL dAX4_put_0 2 rfl) ?_
    refine v_aload_n hX 0 rfl (atL dAX4_put_0 3 rfl) ?_
    refine gf_X4_13 hX (v := ((row σ i).length : Int)) (hn) hi (atL dAX4_put_0 4 rfl) ?_
    refine v_icmp_ge hX ⟨by omega, by omega⟩ ⟨by omega, by omega⟩ (tgt := 20) (atL dAX4_put_0 5 rfl) (by decide) (fun h9 => ?_) (fun h9 => ?_)
    · exact v_vret hX (atL dAX4_put_0 12 rfl) (hret () _ (by rw [if_neg (by omega)]))
    · refine v_aload_n hX 0 rfl (atL dAX4_put_0 6 rfl) ?_
      refine gf_X4_7 hX hi (atL dAX4_put_0 7 rfl) ?_
      refine v_iload_n hX 1 rfl (atL dAX4_put_0 8 rfl) ?_
      refine v_iload_n hX 2 rfl (atL dAX4_put_0 9 rfl) ?_
      refine v_i2b hX (bI_m _) (atL dAX4_put_0 10 rfl) ?_
      refine v_bast hX (c := 1) k.toNat hi2 (by decide) (fun _ _ => rfl) (by omega) (by omega) (by omega) (atL dAX4_put_0 11 rfl) ?_
      exact v_vret hX (atL dAX4_put_0 12 rfl) (hret () _ (by rw [if_pos ⟨by omega, by omega⟩]; exact sr_put ho (by omega) ⟨by omega, by omega⟩))

set_option maxHeartbeats 4000000 in
set_option maxRecDepth 100000 in
theorem c_X4_add (l : Launch) (w : Wl) (σ : St) (i : Nat) (hi : w.2 1 i) (ho : okR σ i) (v : Int) (hr : (row σ i).length < rcap i) : Cn l yX4_add cX4_add 2 none 0 0 wN [.ref (w.1 1 i), .int (iI (v))] w σ (fun _ σ' => σ' = sr σ i (row σ i ++ [(v % 256).toNat])) := by
  refine Cn.of (own := RX4) (lv := [(0, .ref (w.1 1 i)), (1, .int (iI (v)))]) (by decide +kernel) rfl (Nat.le_of_ble_eq_true rfl) rfl (fun X hX hxl hR hcl hret => ?_)
  subst hxl
  have hi2 : w.2 2 i := hcl 1 i hi (2, i) (by simp [mn, tp])
  have hn := ho.len
  have hcp := ho.cap
  have hrc : rcap i ≤ 296 := by unfold rcap; split <;> (try split) <;> (try split) <;> (try split) <;> (try split) <;> (try split) <;> omega
  refine v_aload_n hX 0 rfl (atL dAX4_add_0 0 rfl) ?_
  refine gf_X4_13 hX (v := ((row σ i).length : Int)) (hn) hi (atL dAX4_add_0 1 rfl) ?_
  refine v_if_lt hX ⟨by omega, by omega⟩ (tgt := 40) (atL dAX4_add_0 2 rfl) (by decide) (fun h4 => absurd h4 (by omega)) (fun h4 => ?_)
  refine v_aload_n hX 0 rfl (atL dAX4_add_0 3 rfl) ?_
  refine gf_X4_13 hX (v := ((row σ i).length : Int)) (hn) hi (atL dAX4_add_0 4 rfl) ?_
  refine v_aload_n hX 0 rfl (atL dAX4_add_0 5 rfl) ?_
  refine gf_X4_7 hX hi (atL dAX4_add_0 6 rfl) ?_
  refine v_alen hX (n := rcap i) (t := 0) hi2 (fun _ => rfl) (fun _ => rfl) (atL dAX4_add_0 7 rfl) ?_
  refine v_icmp_ge hX ⟨by omega, by omega⟩ ⟨by omega, by omega⟩ (tgt := 40) (atL dAX4_add_0 8 rfl) (by decide) (fun h16 => absurd h16 (by omega)) (fun h16 => ?_)
  refine v_aload_n hX 0 rfl (atL dAX4_add_0 9 rfl) ?_
  refine gf_X4_7 hX hi (atL dAX4_add_0 10 rfl) ?_
  refine v_aload_n hX 0 rfl (atL dAX4_add_0 11 rfl) ?_
  refine gf_X4_13 hX (v := ((row σ i).length : Int)) (hn) hi (atL dAX4_add_0 12 rfl) ?_
  refine v_iload_n hX 1 rfl (atL dAX4_add_0 13 rfl) ?_
  refine v_i2b hX (bI_m _) (atL dAX4_add_0 14 rfl) ?_
  refine v_bast hX (c := 1) ((row σ i).length) hi2 (by decide) (fun _ _ => rfl) rfl hr (by omega) (atL dAX4_add_0 15 rfl) ?_
  refine v_aload_n hX 0 rfl (atL dAX4_add_0 16 rfl) ?_
  refine v_dup hX rfl (atL dAX4_add_0 17 rfl) ?_
  refine gf_X4_13 hX (v := ((row σ i).length : Int)) ((su_c (by decide)).trans (hn)) hi (atL dAX4_add_0 18 rfl) ?_
  refine v_iconst hX (atL dAX4_add_0 19 rfl) ?_
  refine v_iadd hX (iI_add _ _) (atL dAX4_add_0 20 rfl) ?_
  refine pf_X4_13 hX hi (atL dAX4_add_0 21 rfl) ?_
  exact v_vret hX (atL dAX4_add_0 22 rfl) (hret () _ (sr_push ho ⟨by omega, by omega⟩))

set_option maxHeartbeats 4000000 in
set_option maxRecDepth 100000 in
theorem c_X4_addWord (l : Launch) (w : Wl) (σ : St) (i : Nat) (hi : w.2 1 i) (ho : okR σ i) (v : Int) (hv : rI v) (hr : (row σ i).length + 4 ≤ rcap i) : Cn l yX4_addWord cX4_addWord 2 none 1 21 wN [.ref (w.1 1 i), .int (iI (v))] w σ (fun _ σ' => σ' = sr σ i (row σ i ++ [(v / 16777216 % 256).toNat, (v / 65536 % 256).toNat, (v / 256 % 256).toNat, (v % 256).toNat])) := by
  refine Cn.of (own := RX4) (lv := [(0, .ref (w.1 1 i)), (1, .int (iI (v)))]) (by decide +kernel) rfl (Nat.le_of_ble_eq_true rfl) rfl (fun X hX hxl hR hcl hret => ?_)
  subst hxl
  have hi2 : w.2 2 i := hcl 1 i hi (2, i) (by simp [mn, tp])
  have hn := ho.len
  have hcp := ho.cap
  have hrc : rcap i ≤ 296 := by unfold rcap; split <;> (try split) <;> (try split) <;> (try split) <;> (try split) <;> (try split) <;> omega
  have hv1 : -2147483648 ≤ v := hv.1
  have hv2 : v < 2147483648 := hv.2
  refine v_aload_n hX 0 rfl (atL dAX4_addWord_0 0 rfl) ?_
  refine v_iload_n hX 1 rfl (atL dAX4_addWord_0 1 rfl) ?_
  refine v_bipush hX (by decide +kernel) (atL dAX4_addWord_0 2 rfl) ?_
  refine v_ishr hX (iI_shr ⟨by omega, by omega⟩ 24 (by decide) : _ = iI (v / 16777216)) (atL dAX4_addWord_0 3 rfl) ?_
  refine v_callV hX (As := [.int (iI (v / 16777216))]) (rest := []) (c_X4_add (xl X) w σ i hi ho (v / 16777216) (by omega)) lk_X4_17 hi (fun _ => rfl) rfl rfl rfl (by rw [hR]; exact ⟨Nat.le_of_ble_eq_true rfl, Nat.le_of_ble_eq_true rfl⟩) ⟨Nat.zero_le _, Nat.zero_le _⟩ rfl (Nat.le_of_ble_eq_true rfl) (atL dAX4_addWord_0 4 rfl) (fun _ s1 e1 => ?_)
  subst e1
  show V X _ w _ _ (sr σ i (row σ i ++ [(v / 16777216 % 256).toNat])) []
  refine v_aload_n hX 0 rfl (atL dAX4_addWord_0 5 rfl) ?_
  refine v_iload_n hX 1 rfl (atL dAX4_addWord_0 6 rfl) ?_
  refine v_bipush hX (by decide +kernel) (atL dAX4_addWord_0 7 rfl) ?_
  refine v_ishr hX (iI_shr ⟨by omega, by omega⟩ 16 (by decide) : _ = iI (v / 65536)) (atL dAX4_addWord_0 8 rfl) ?_
  refine v_callV hX (As := [.int (iI (v / 65536))]) (rest := []) (c_X4_add (xl X) w (sr σ i (row σ i ++ [(v / 16777216 % 256).toNat])) i hi (okR_sr' ho (by simp; omega) (ho.by.app (BY.one (m256 _)))) (v / 65536) (by rw [row_sr]; simp; omega)) lk_X4_17 hi (fun _ => rfl) rfl rfl rfl (by rw [hR]; exact ⟨Nat.le_of_ble_eq_true rfl, Nat.le_of_ble_eq_true rfl⟩) ⟨Nat.zero_le _, Nat.zero_le _⟩ rfl (Nat.le_of_ble_eq_true rfl) (atL dAX4_addWord_0 9 rfl) (fun _ s2 e2 => ?_)
  subst e2
  rw [sr_app]
  show V X _ w _ _ (sr σ i (row σ i ++ [(v / 16777216 % 256).toNat] ++ [(v / 65536 % 256).toNat])) []
  refine v_aload_n hX 0 rfl (atL dAX4_addWord_0 10 rfl) ?_
  refine v_iload_n hX 1 rfl (atL dAX4_addWord_0 11 rfl) ?_
  refine v_bipush hX (by decide +kernel) (atL dAX4_addWord_0 12 rfl) ?_
  refine v_ishr hX (iI_shr ⟨by omega, by omega⟩ 8 (by decide) : _ = iI (v / 256)) (atL dAX4_addWord_0 13 rfl) ?_
  refine v_callV hX (As := [.int (iI (v / 256))]) (rest := []) (c_X4_add (xl X) w (sr σ i (row σ i ++ [(v / 16777216 % 256).toNat] ++ [(v / 65536 % 256).toNat])) i hi (okR_sr' ho (by simp; omega) ((ho.by.app (BY.one (m256 _))).app (BY.one (m256 _)))) (v / 256) (by rw [row_sr]; simp; omega)) lk_X4_17 hi (fun _ => rfl) rfl rfl rfl (by rw [hR]; exact ⟨Nat.le_of_ble_eq_true rfl, Nat.le_of_ble_eq_true rfl⟩) ⟨Nat.zero_le _, Nat.zero_le _⟩ rfl (Nat.le_of_ble_eq_true rfl) (atL dAX4_addWord_0 14 rfl) (fun _ s3 e3 => ?_)
  subst e3
  rw [sr_app]
  show V X _ w _ _ (sr σ i (row σ i ++ [(v / 16777216 % 256).toNat] ++ [(v / 65536 % 256).toNat] ++ [(v / 256 % 256).toNat])) []
  refine v_aload_n hX 0 rfl (atL dAX4_addWord_0 15 rfl) ?_
  refine v_iload_n hX 1 rfl (atL dAX4_addWord_0 16 rfl) ?_
  refine v_callV hX (As := [.int (iI (v))]) (rest := []) (c_X4_add (xl X) w (sr σ i (row σ i ++ [(v / 16777216 % 256).toNat] ++ [(v / 65536 % 256).toNat] ++ [(v / 256 % 256).toNat])) i hi (okR_sr' ho (by simp; omega) (((ho.by.app (BY.one (m256 _))).app (BY.one (m256 _))).app (BY.one (m256 _)))) (v) (by rw [row_sr]; simp; omega)) lk_X4_17 hi (fun _ => rfl) rfl rfl rfl (by rw [hR]; exact ⟨Nat.le_of_ble_eq_true rfl, Nat.le_of_ble_eq_true rfl⟩) ⟨Nat.zero_le _, Nat.zero_le _⟩ rfl (Nat.le_of_ble_eq_true rfl) (atL dAX4_addWord_0 17 rfl) (fun _ s4 e4 => ?_)
  subst e4
  rw [sr_app]
  show V X _ w _ _ (sr σ i (row σ i ++ [(v / 16777216 % 256).toNat] ++ [(v / 65536 % 256).toNat] ++ [(v / 256 % 256).toNat] ++ [(v % 256).toNat])) []
  exact v_vret hX (atL dAX4_addWord_0 18 rfl) (hret () _ (by simp))

set_option maxHeartbeats 4000000 in
set_option maxRecDepth 100000 in
theorem c_X4_addTimes (l : Launch) (w : Wl) (σ : St) (i : Nat) (hi : w.2 1 i) (ho : okR σ i) (v : Int) (T : Nat) (hr : (row σ i).length + T ≤ rcap i) : Cn l yX4_addTimes cX4_addTimes 4 none 1 21 wN [.ref (w.1 1 i), .int (iI (v)), .int (iI ((T : Int)))] w σ (fun _ σ' => σ' = sr σ i (row σ i ++ List.replicate T (v % 256).toNat)) := by
  refine Cn.of (own := RX4) (lv := [(0, .ref (w.1 1 i)), (1, .int (iI (v))), (2, .int (iI ((T : Int))))]) (by decide +kernel) rfl (Nat.le_of_ble_eq_true rfl) rfl (fun X hX hxl hR hcl hret => ?_)
  subst hxl
  have hi2 : w.2 2 i := hcl 1 i hi (2, i) (by simp [mn, tp])
  have hn := ho.len
  have hcp := ho.cap
  have hrc : rcap i ≤ 296 := by unfold rcap; split <;> (try split) <;> (try split) <;> (try split) <;> (try split) <;> (try split) <;> omega
  have loop : ∀ (n m : Nat), m + n = T → V X (0, 0) w 2 [(3, .int (iI (m : Int))), (0, .ref (w.1 1 i)), (1, .int (iI v)), (2, .int (iI (T : Int)))] (sr σ i (row σ i ++ List.replicate m (v % 256).toNat)) [] := by
    intro n
    induction n with
    | zero =>
      intro m hm
      obtain rfl : m = T := hm
      refine v_iload_n hX 0 rfl (atL dAX4_addTimes_0 2 rfl) ?_
      refine v_iload_n hX 3 rfl (atL dAX4_addTimes_0 3 rfl) ?_
      refine v_icmp_ge hX ⟨by omega, by omega⟩ ⟨by omega, by omega⟩ (tgt := 18) (atL dAX4_addTimes_0 4 rfl) (by decide) (fun h4 => ?_) (fun h4 => absurd h4 (by omega))
      exact v_vret hX (atL dAX4_addTimes_0 10 rfl) (hret () _ rfl)
    | succ n ih =>
      intro m hm
      refine v_iload_n hX 0 rfl (atL dAX4_addTimes_0 2 rfl) ?_
      refine v_iload_n hX 3 rfl (atL dAX4_addTimes_0 3 rfl) ?_
      refine v_icmp_ge hX ⟨by omega, by omega⟩ ⟨by omega, by omega⟩ (tgt := 18) (atL dAX4_addTimes_0 4 rfl) (by decide) (fun h4 => absurd h4 (by omega)) (fun h4 => ?_)
      refine v_aload_n hX 1 rfl (atL dAX4_addTimes_0 5 rfl) ?_
      refine v_iload_n hX 2 rfl (atL dAX4_addTimes_0 6 rfl) ?_
      refine v_callV hX (As := [.int (iI (v))]) (rest := []) (c_X4_add (xl X) w (sr σ i (row σ i ++ List.replicate m (v % 256).toNat)) i hi (okR_sr' ho (by simp; omega) (ho.by.app (BY.rep (m256 _)))) (v) (by rw [row_sr]; simp; omega)) lk_X4_17 hi (fun _ => rfl) rfl rfl rfl (by rw [hR]; exact ⟨Nat.le_of_ble_eq_true rfl, Nat.le_of_ble_eq_true rfl⟩) ⟨Nat.zero_le _, Nat.zero_le _⟩ rfl (Nat.le_of_ble_eq_true rfl) (atL dAX4_addTimes_0 7 rfl) (fun _ s1 e1 => ?_)
      subst e1
      rw [sr_app, List.append_assoc, ← List.replicate_succ']
      show V X _ w _ _ (sr σ i (row σ i ++ List.replicate (m + 1) (v % 256).toNat)) []
      refine v_iinc hX (lv' := [(3, .int (iI (((m : Int)) + 1))), (0, .ref (w.1 1 i)), (1, .int (iI (v))), (2, .int (iI ((T : Int))))]) 0 rfl (iI_add _ _) (Nat.le_of_ble_eq_true rfl) rfl (atL dAX4_addTimes_0 8 rfl) ?_
      refine v_goto hX (tgt := 2) (atL dAX4_addTimes_0 9 rfl) (by decide) ?_
      exact ih (m + 1) (by omega)
  refine v_iconst hX (atL dAX4_addTimes_0 0 rfl) ?_
  refine v_istore_n hX (i := 3) rfl (lv' := [(3, .int (iI (0))), (0, .ref (w.1 1 i)), (1, .int (iI (v))), (2, .int (iI ((T : Int))))]) (Nat.le_of_ble_eq_true rfl) rfl (atL dAX4_addTimes_0 1 rfl) ?_
  have e : σ = sr σ i (row σ i ++ List.replicate 0 (v % 256).toNat) := by rw [List.replicate_zero, List.append_nil, sr_self ho]
  rw [e]
  exact loop T 0 (by omega)
