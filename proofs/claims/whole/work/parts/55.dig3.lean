def SM (i : Nat) : List (Nat × Nat) := [(0, i), (1, i), (0, 27), (1, 27), (0, 28), (1, 28), (9, 0), (9, 1), (9, 2)]
set_option maxHeartbeats 1000000 in
set_option maxRecDepth 100000 in
theorem c_X1_setMask (l : Launch) (w : Wl) (σ : St) (hk0 : w.2 8 0) (hA : AR σ) (h : Int) (hh : rI h) (o : Nat) (hov : w.2 1 o) (hol : (row σ o).length ≤ 256) (n : Nat) (i : Nat) (hi : w.2 1 i) (hn : n ≤ rcap i) (oi : o ≠ i) (o27 : o ≠ 27) (o28 : o ≠ 28) (i27 : i ≠ 27) (i28 : i ≠ 28) : Cn l yX1_setMask cX1_setMask 8 none 4 95 wN [.ref (w.1 8 0), .int (iI (h)), .ref (w.1 1 o), .int (iI ((n : Int))), .ref (w.1 1 i)] w σ (fun _ σ' => RW σ' i (msk h (row σ o) n) ∧ AR σ' ∧ Fr (SM i) σ σ') := by
  refine Cn.of (own := RX1) (lv := [(0, .ref (w.1 8 0)), (1, .int (iI (h))), (2, .ref (w.1 1 o)), (3, .int (iI ((n : Int)))), (4, .ref (w.1 1 i))]) (by decide +kernel) rfl (Nat.le_of_ble_eq_true rfl) rfl (fun X hX hxl hR hcl hret => ?_)
  subst hxl
  have hD9 : ∀ q, (9, q) ∈ mn σ 8 0 → w.2 9 q := fun q h => hcl 8 0 hk0 (9, q) h
  have hR1 : ∀ q, (1, q) ∈ mn σ 8 0 → w.2 1 q := fun q h => hcl 8 0 hk0 (1, q) h
  have ho := hA o
  have hll := hl_le h
  have hlg := hl_ge h
  have hni := Nat.le_trans hn (rcap_le i)
  have l1 : ∀ (d b c : Nat) (s : St), n ≤ c + d → c ≤ 400 → c = b * hl h → RW s i (msk h (row σ o) (min n c)) → AR s → Fr (SM i) σ s → V X (0, 0) w 18 [(7, .int (iI ((c : Int)))), (6, .int (iI ((b : Int)))), (5, .int (iI ((hl h : Int)))), (0, .ref (w.1 8 0)), (1, .int (iI (h))), (2, .ref (w.1 1 o)), (3, .int (iI ((n : Int)))), (4, .ref (w.1 1 i))] s [] := by
    intro d
    induction d with
    | zero =>
      intro b c s hd hc4 hc hr1 hA1 hf
      have hcn : min n c = n := by omega
      rw [hcn] at hr1
      refine v_iload hX 0 rfl (atL dAX1_setMask_0 10 rfl) ?_
      refine v_iload_n hX 6 rfl (atL dAX1_setMask_0 11 rfl) ?_
      refine v_icmp_ge hX ⟨by omega, by omega⟩ ⟨by omega, by omega⟩ (tgt := 103) (atL dAX1_setMask_0 12 rfl) (by decide) (fun h21 => ?_) (fun h21 => absurd h21 (by omega))
      exact v_vret hX (atL dAX1_setMask_0 53 rfl) (hret () _ ⟨hr1, hA1, hf⟩)
    | succ d ih =>
      intro b c s hd hc4 hc hr1 hA1 hf
      refine v_iload hX 0 rfl (atL dAX1_setMask_0 10 rfl) ?_
      refine v_iload_n hX 6 rfl (atL dAX1_setMask_0 11 rfl) ?_
      refine v_icmp_ge hX ⟨by omega, by omega⟩ ⟨by omega, by omega⟩ (tgt := 103) (atL dAX1_setMask_0 12 rfl) (by decide) (fun h21 => ?_) (fun h21 => ?_)
      · exact v_vret hX (atL dAX1_setMask_0 53 rfl) (hret () _ ⟨by rw [show min n c = n by omega] at hr1; exact hr1, hA1, hf⟩)
      · have hcn : min n c = c := by omega
        rw [hcn] at hr1
        have hrow : row s o = row σ o := row_fr hf (by simp [SM, oi, o27, o28]) (by simp [SM, oi, o27, o28])
        have hb28 := Nat.mul_le_mul_left b (hl_ge h)
        have hsm : (b + 1) * hl h = b * hl h + hl h := Nat.succ_mul b (hl h)
        refine v_aload_n hX 3 rfl (atL dAX1_setMask_0 13 rfl) ?_
        refine gf_X1_26 hX hk0 (atL dAX1_setMask_0 14 rfl) ?_
        refine v_aload_n hX 5 rfl (atL dAX1_setMask_0 15 rfl) ?_
        refine v_callV hX (As := [.ref (w.1 1 o)]) (rest := []) (c_X4_take (xl X) w s 27 (hR1 27 (by simp [mn, tp])) (hA1 27) o hov (hA1 o) o27 (by rw [hrow]; show _ ≤ 260; omega)) lk_X1_57 (hR1 27 (by simp [mn, tp])) (fun _ => rfl) rfl rfl rfl (by rw [hR]; exact ⟨Nat.le_of_ble_eq_true rfl, Nat.le_of_ble_eq_true rfl⟩) ⟨Nat.zero_le _, Nat.zero_le _⟩ rfl (Nat.le_of_ble_eq_true rfl) (atL dAX1_setMask_0 16 rfl) (fun _ s2 e2 => ?_)
        obtain ⟨hr2, hf2⟩ := RW_of (hA1 27) e2 (by rw [hrow]; show _ ≤ 260; omega) (hA1 o).by
        rw [hrow] at hr2
        have hA2 := hA1.one hr2 hf2 (by simp)
        show V X _ w _ _ s2 []
        refine v_aload_n hX 3 rfl (atL dAX1_setMask_0 17 rfl) ?_
        refine gf_X1_26 hX hk0 (atL dAX1_setMask_0 18 rfl) ?_
        refine v_iload hX 1 rfl (atL dAX1_setMask_0 19 rfl) ?_
        refine v_callV hX (As := [.int (iI ((b : Int)))]) (rest := []) (c_X4_addWord (xl X) w s2 27 (hR1 27 (by simp [mn, tp])) (hA2 27) (b : Int) ⟨by omega, by omega⟩ (by rw [hr2.2]; show _ ≤ 260; omega)) lk_X1_61 (hR1 27 (by simp [mn, tp])) (fun _ => rfl) rfl rfl rfl (by rw [hR]; exact ⟨Nat.le_of_ble_eq_true rfl, Nat.le_of_ble_eq_true rfl⟩) ⟨Nat.zero_le _, Nat.zero_le _⟩ rfl (Nat.le_of_ble_eq_true rfl) (atL dAX1_setMask_0 20 rfl) (fun _ s3 e3 => ?_)
        rw [hr2.2, show [((b : Int) / 16777216 % 256).toNat, ((b : Int) / 65536 % 256).toNat, ((b : Int) / 256 % 256).toNat, ((b : Int) % 256).toNat] = wb b by unfold wb; simp only [List.cons.injEq]; refine ⟨by omega, by omega, by omega, by omega, trivial⟩] at e3
        obtain ⟨hr3, hf3⟩ := RW_of (hA2 27) e3 (by rw [List.length_append]; show _ + 4 ≤ 260; omega) (ho.by.app wb_by)
        have hA3 := hA2.one hr3 hf3 (by simp)
        show V X _ w _ _ s3 []
        refine v_iinc hX (lv' := [(6, .int (iI (((b : Int)) + 1))), (7, .int (iI ((c : Int)))), (5, .int (iI ((hl h : Int)))), (0, .ref (w.1 8 0)), (1, .int (iI (h))), (2, .ref (w.1 1 o)), (3, .int (iI ((n : Int)))), (4, .ref (w.1 1 i))]) 1 rfl (iI_add _ _) (Nat.le_of_ble_eq_true rfl) rfl (atL dAX1_setMask_0 21 rfl) ?_
        refine v_aload_n hX 3 rfl (atL dAX1_setMask_0 22 rfl) ?_
        refine gf_X1_30 hX hk0 (atL dAX1_setMask_0 23 rfl) ?_
        refine v_iconst hX (atL dAX1_setMask_0 24 rfl) ?_
        refine pf_X1_33 hX (hR1 28 (by simp [mn, tp])) (atL dAX1_setMask_0 25 rfl) ?_
        rw [sr_nil]
        obtain ⟨hr4, hf4⟩ := RW_of (s := sr s3 28 []) (hA3 28) rfl (by simp) BY.nil
        generalize sr s3 28 [] = s4 at hr4 hf4 ⊢
        have hA4 := hA3.one hr4 hf4 (by simp)
        have hr5 := hr3.fr hf4 (by simp) (by simp)
        refine v_aload_n hX 3 rfl (atL dAX1_setMask_0 26 rfl) ?_
        refine v_iload_n hX 4 rfl (atL dAX1_setMask_0 27 rfl) ?_
        refine v_aload_n hX 3 rfl (atL dAX1_setMask_0 28 rfl) ?_
        refine gf_X1_26 hX hk0 (atL dAX1_setMask_0 29 rfl) ?_
        refine v_aload_n hX 3 rfl (atL dAX1_setMask_0 30 rfl) ?_
        refine gf_X1_30 hX hk0 (atL dAX1_setMask_0 31 rfl) ?_
        refine v_callV hX (As := [.int (iI (h)), .ref (w.1 1 27), .ref (w.1 1 28)]) (rest := []) (c_X1_addDigest (xl X) w s4 hk0 h hh 27 (hR1 27 (by simp [mn, tp])) (hA4 27) 28 (hR1 28 (by simp [mn, tp])) (hA4 28) (by rw [hr4.2]; show 0 + hl h ≤ 32; omega)) lk_X1_64 hk0 (fun _ => rfl) rfl rfl rfl (by rw [hR]; exact ⟨Nat.le_of_ble_eq_true rfl, Nat.le_of_ble_eq_true rfl⟩) ⟨Nat.zero_le _, Nat.zero_le _⟩ rfl (Nat.le_of_ble_eq_true rfl) (atL dAX1_setMask_0 32 rfl) (fun _ s6 h6 => ?_)
        obtain ⟨h6, hf6⟩ := h6
        rw [hr4.2, hr5.2, List.nil_append] at h6
        have hA6 := hA4.one h6 hf6 (by simp)
        have hr7 : RW s6 i (msk h (row σ o) c) := (((hr1.fr hf2 (by simp [i27]) (by simp [i27])).fr hf3 (by simp [i27]) (by simp [i27])).fr hf4 (by simp [i28]) (by simp [i28])).fr hf6 (by simp [i28]) (by simp [i28])
        show V X _ w _ _ s6 []
        refine v_aload hX 7 rfl (atL dAX1_setMask_0 33 rfl) ?_
        refine v_aload_n hX 3 rfl (atL dAX1_setMask_0 34 rfl) ?_
        refine gf_X1_30 hX hk0 (atL dAX1_setMask_0 35 rfl) ?_
        refine v_iconst hX (atL dAX1_setMask_0 36 rfl) ?_
        refine v_iload_n hX 6 rfl (atL dAX1_setMask_0 37 rfl) ?_
        refine v_iload hX 1 rfl (atL dAX1_setMask_0 38 rfl) ?_
        refine v_isub hX (iI_sub _ _) (atL dAX1_setMask_0 39 rfl) ?_
        refine v_iload hX 2 rfl (atL dAX1_setMask_0 40 rfl) ?_
        refine v_icmp_ge hX ⟨by omega, by omega⟩ ⟨by omega, by omega⟩ (tgt := 88) (atL dAX1_setMask_0 41 rfl) (by decide) (fun h78 => ?_) (fun h78 => ?_)
        · refine v_iload hX 2 rfl (atL dAX1_setMask_0 46 rfl) ?_
          refine v_callV hX (As := [.ref (w.1 1 28), .int (iI (0)), .int (iI ((hl h : Int)))]) (rest := []) (c_X4_addPart (xl X) w s6 i hi (hA6 i) 28 (hR1 28 (by simp [mn, tp])) (hA6 28) (Ne.symm i28) 0 (hl h) (by rw [h6.2, sha_len]; omega) (by rw [hr7.2, msk_len]; omega)) lk_X1_68 hi (fun _ => rfl) rfl rfl rfl (by rw [hR]; exact ⟨Nat.le_of_ble_eq_true rfl, Nat.le_of_ble_eq_true rfl⟩) ⟨Nat.zero_le _, Nat.zero_le _⟩ rfl (Nat.le_of_ble_eq_true rfl) (atL dAX1_setMask_0 47 rfl) (fun _ s8 e8 => ?_)
          rw [hr7.2, h6.2, List.drop_zero, hc, msk_add (by omega), ← hc] at e8
          obtain ⟨hr8, hf8⟩ := RW_of (hA6 i) e8 (by rw [msk_len]; omega) msk_by
          have hA8 := hA6.one hr8 hf8 (by simp)
          show V X _ w _ _ s8 []
          refine v_iload hX 1 rfl (atL dAX1_setMask_0 48 rfl) ?_
          refine v_iload hX 2 rfl (atL dAX1_setMask_0 49 rfl) ?_
          refine v_iadd hX (iI_add _ _) (atL dAX1_setMask_0 50 rfl) ?_
          rw [show (((c : Int)) + ((hl h : Int))) = ((c + hl h : Nat) : Int) from (by omega)]
          refine v_istore hX (lv' := [(7, .int (iI (((c + hl h : Nat) : Int)))), (6, .int (iI (((b : Int)) + 1))), (5, .int (iI ((hl h : Int)))), (0, .ref (w.1 8 0)), (1, .int (iI (h))), (2, .ref (w.1 1 o)), (3, .int (iI ((n : Int)))), (4, .ref (w.1 1 i))]) (Nat.le_of_ble_eq_true rfl) rfl (atL dAX1_setMask_0 51 rfl) ?_
          refine v_goto hX (tgt := 18) (atL dAX1_setMask_0 52 rfl) (by decide) ?_
          refine v_sub (lv' := [(7, .int (iI (((c + hl h : Nat) : Int)))), (6, .int (iI (((b : Int)) + 1))), (5, .int (iI ((hl h : Int)))), (0, .ref (w.1 8 0)), (1, .int (iI (h))), (2, .ref (w.1 1 o)), (3, .int (iI ((n : Int)))), (4, .ref (w.1 1 i))]) [0, 1, 2, 3, 4, 5, 6, 7] rfl ?_
          rw [show (b : Int) + 1 = ((b + 1 : Nat) : Int) by omega]
          refine ih (b + 1) (c + hl h) s8 (by omega) (by omega) (by omega) (by rw [show min n (c + hl h) = c + hl h by omega]; exact hr8) hA8 ?_
          exact (((((hf.tr' (hf2.mono (by simp [SM]))).tr' (hf3.mono (by simp [SM]))).tr' (hf4.mono (by simp [SM]))).tr' (hf6.mono (by simp [SM]))).tr' (hf8.mono (by simp [SM])))
        · refine v_iload_n hX 6 rfl (atL dAX1_setMask_0 42 rfl) ?_
          refine v_iload hX 1 rfl (atL dAX1_setMask_0 43 rfl) ?_
          refine v_isub hX (iI_sub _ _) (atL dAX1_setMask_0 44 rfl) ?_
          rw [show (((n : Int)) - ((c : Int))) = ((n - c : Nat) : Int) from (by omega)]
          refine v_goto hX (tgt := 90) (atL dAX1_setMask_0 45 rfl) (by decide) ?_
          refine v_callV hX (As := [.ref (w.1 1 28), .int (iI (0)), .int (iI (((n - c : Nat) : Int)))]) (rest := []) (c_X4_addPart (xl X) w s6 i hi (hA6 i) 28 (hR1 28 (by simp [mn, tp])) (hA6 28) (Ne.symm i28) 0 (n - c) (by rw [h6.2, sha_len]; omega) (by rw [hr7.2, msk_len]; omega)) lk_X1_68 hi (fun _ => rfl) rfl rfl rfl (by rw [hR]; exact ⟨Nat.le_of_ble_eq_true rfl, Nat.le_of_ble_eq_true rfl⟩) ⟨Nat.zero_le _, Nat.zero_le _⟩ rfl (Nat.le_of_ble_eq_true rfl) (atL dAX1_setMask_0 47 rfl) (fun _ s8 e8 => ?_)
          rw [hr7.2, h6.2, List.drop_zero, hc, msk_add (by omega), ← hc] at e8
          obtain ⟨hr8, hf8⟩ := RW_of (hA6 i) e8 (by rw [msk_len]; omega) msk_by
          have hA8 := hA6.one hr8 hf8 (by simp)
          show V X _ w _ _ s8 []
          refine v_iload hX 1 rfl (atL dAX1_setMask_0 48 rfl) ?_
          refine v_iload hX 2 rfl (atL dAX1_setMask_0 49 rfl) ?_
          refine v_iadd hX (iI_add _ _) (atL dAX1_setMask_0 50 rfl) ?_
          rw [show (((c : Int)) + ((hl h : Int))) = ((c + hl h : Nat) : Int) from (by omega)]
          refine v_istore hX (lv' := [(7, .int (iI (((c + hl h : Nat) : Int)))), (6, .int (iI (((b : Int)) + 1))), (5, .int (iI ((hl h : Int)))), (0, .ref (w.1 8 0)), (1, .int (iI (h))), (2, .ref (w.1 1 o)), (3, .int (iI ((n : Int)))), (4, .ref (w.1 1 i))]) (Nat.le_of_ble_eq_true rfl) rfl (atL dAX1_setMask_0 51 rfl) ?_
          refine v_goto hX (tgt := 18) (atL dAX1_setMask_0 52 rfl) (by decide) ?_
          refine v_sub (lv' := [(7, .int (iI (((c + hl h : Nat) : Int)))), (6, .int (iI (((b : Int)) + 1))), (5, .int (iI ((hl h : Int)))), (0, .ref (w.1 8 0)), (1, .int (iI (h))), (2, .ref (w.1 1 o)), (3, .int (iI ((n : Int)))), (4, .ref (w.1 1 i))]) [0, 1, 2, 3, 4, 5, 6, 7] rfl ?_
          rw [show (b : Int) + 1 = ((b + 1 : Nat) : Int) by omega]
          refine ih (b + 1) (c + hl h) s8 (by omega) (by omega) (by omega) (by rw [show min n (c + hl h) = c + (n - c) by omega]; exact hr8) hA8 ?_
          exact (((((hf.tr' (hf2.mono (by simp [SM]))).tr' (hf3.mono (by simp [SM]))).tr' (hf4.mono (by simp [SM]))).tr' (hf6.mono (by simp [SM]))).tr' (hf8.mono (by simp [SM])))
  refine v_iload_n hX 1 rfl (atL dAX1_setMask_0 0 rfl) ?_
  refine v_callS hX (As := [.int (iI (h))]) (rest := []) (c_X1_lengthOf (xl X) w σ h hh) lk_X1_50 rfl (by rw [hR]; exact ⟨Nat.le_of_ble_eq_true rfl, Nat.le_of_ble_eq_true rfl⟩) ⟨Nat.zero_le _, Nat.zero_le _⟩ rfl (Nat.le_of_ble_eq_true rfl) (atL dAX1_setMask_0 1 rfl) (fun r1 s1 g1 => ?_)
  obtain ⟨g1a, g1b⟩ := g1
  rw [g1b]
  subst g1a
  show V X _ w _ _ σ [.int (iI ((hl h : Int)))]
  refine v_istore hX (lv' := [(5, .int (iI ((hl h : Int)))), (0, .ref (w.1 8 0)), (1, .int (iI (h))), (2, .ref (w.1 1 o)), (3, .int (iI ((n : Int)))), (4, .ref (w.1 1 i))]) (Nat.le_of_ble_eq_true rfl) rfl (atL dAX1_setMask_0 2 rfl) ?_
  refine v_iconst hX (atL dAX1_setMask_0 3 rfl) ?_
  refine v_istore hX (lv' := [(6, .int (iI (0))), (5, .int (iI ((hl h : Int)))), (0, .ref (w.1 8 0)), (1, .int (iI (h))), (2, .ref (w.1 1 o)), (3, .int (iI ((n : Int)))), (4, .ref (w.1 1 i))]) (Nat.le_of_ble_eq_true rfl) rfl (atL dAX1_setMask_0 4 rfl) ?_
  refine v_aload hX 6 rfl (atL dAX1_setMask_0 5 rfl) ?_
  refine v_iconst hX (atL dAX1_setMask_0 6 rfl) ?_
  refine pf_X1_33 hX hi (atL dAX1_setMask_0 7 rfl) ?_
  rw [sr_nil]
  obtain ⟨hr0, hf0⟩ := RW_of (s := sr σ i []) (hA i) rfl (by simp) BY.nil
  generalize sr σ i [] = s0 at hr0 hf0 ⊢
  have hA0 := hA.one hr0 hf0 (by simp)
  refine v_iconst hX (atL dAX1_setMask_0 8 rfl) ?_
  refine v_istore hX (lv' := [(7, .int (iI (0))), (6, .int (iI (0))), (5, .int (iI ((hl h : Int)))), (0, .ref (w.1 8 0)), (1, .int (iI (h))), (2, .ref (w.1 1 o)), (3, .int (iI ((n : Int)))), (4, .ref (w.1 1 i))]) (Nat.le_of_ble_eq_true rfl) rfl (atL dAX1_setMask_0 9 rfl) ?_
  exact l1 n 0 0 s0 (by omega) (by omega) (by omega) (by rw [Nat.min_zero]; exact hr0) hA0 (hf0.mono (by simp [SM]))
