set_option maxHeartbeats 1000000 in
set_option maxRecDepth 100000 in
theorem c_X8_writesNumber (l : Launch) (w : Wl) (σ : St) (hk0 : w.2 13 0) (i v : Nat) (hi : w.2 14 i) (hN : NN σ i v) (s : Nat) (hs : s < 24) : Cn l yX8_writesNumber cX8_writesNumber 3 (Option.some Jvm.ClassFile.FieldType.int) 2 44 wI [.ref (w.1 13 0), .ref (w.1 14 i), .int (iI ((s : Int)))] w σ (fun a σ' => (a = -4 ∧ 256 < nby v ∧ σ' = σ) ∨ (a = ((nby v : Nat) : Int) ∧ nby v ≤ 256 ∧ SM1 σ' s (be v (nby v)) ∧ (∀ q, (q < 256 * s ∨ 256 * s + nby v ≤ q) → σ' 13 0 q = σ 13 0 q) ∧ (∀ q, q ≠ s → σ' 13 1 q = σ 13 1 q) ∧ (∀ j, j ≠ 2 → σ' 10 0 j = σ 10 0 j) ∧ Fr [(10, 0), (13, 3), (13, 0), (13, 1)] σ σ')) := by
  refine Cn.of (own := RX8) (lv := [(0, .ref (w.1 13 0)), (1, .ref (w.1 14 i)), (2, .int (iI ((s : Int))))]) (by decide +kernel) rfl (Nat.le_of_ble_eq_true rfl) rfl (fun X hX hxl hR hcl hret => ?_)
  subst hxl
  have hQ : ∀ q, (14, q) ∈ mn σ 13 0 → w.2 14 q := fun q h => hcl 13 0 hk0 (14, q) h
  have hQ5 : ∀ q, (14, q) ∈ mn σ 13 0 → w.2 15 q := fun q h => hcl 14 q (hQ q h) (15, q) (by simp [mn, tp])
  have hQ16 : ∀ q, (16, q) ∈ mn σ 13 0 → w.2 16 q := fun q h => hcl 13 0 hk0 (16, q) h
  have hbl : blen v ≤ 4320 := blen_le hN.le
  have hnb : nby v = (blen v + 7) / 8 := rfl
  refine v_aload_n hX 1 rfl (atL dAX8_writesNumber_0 0 rfl) ?_
  refine v_callN hX (As := []) (rest := []) (c_X7_bytes (xl X) w σ i v hi hN) lk_X8_217 hi (fun _ => rfl) rfl rfl rfl (by rw [hR]; exact ⟨Nat.le_of_ble_eq_true rfl, Nat.le_of_ble_eq_true rfl⟩) ⟨Nat.zero_le _, Nat.zero_le _⟩ rfl (Nat.le_of_ble_eq_true rfl) (atL dAX8_writesNumber_0 1 rfl) (fun r1 z1 g1 => ?_)
  obtain ⟨g1a, g1b⟩ := g1
  rw [g1b]
  subst g1a
  show V X _ w _ _ σ [.int (iI (((nby v : Nat) : Int)))]
  refine v_sipush hX (by decide +kernel) (atL dAX8_writesNumber_0 2 rfl) ?_
  refine v_icmp_le hX ⟨by omega, by omega⟩ ⟨by omega, by omega⟩ (tgt := 13) (atL dAX8_writesNumber_0 3 rfl) (by decide) (fun h7 => ?_) (fun h7 => ?_)
  · refine v_aload_n hX 0 rfl (atL dAX8_writesNumber_0 6 rfl) ?_
    refine v_callV hX (As := []) (rest := []) (c_X8_anew (xl X) w σ hk0) lk_X8_254 hk0 (fun _ => rfl) rfl rfl rfl (by rw [hR]; exact ⟨Nat.le_of_ble_eq_true rfl, Nat.le_of_ble_eq_true rfl⟩) ⟨Nat.zero_le _, Nat.zero_le _⟩ rfl (Nat.le_of_ble_eq_true rfl) (atL dAX8_writesNumber_0 7 rfl) (fun _ s1 e1 => ?_)
    have hf1 : FP σ s1 := by rw [e1]; exact ⟨Fr.su (by simp), fun j hj => su_j hj⟩
    have hr1 : RO s1 [] := by rw [e1]; exact ⟨su_s, fun j hj => absurd hj (by simp)⟩
    have hN1 : NN s1 i v := nm.fr hN hf1.1 (by simp) (by simp)
    show V X _ w _ _ s1 []
    refine v_aload_n hX 0 rfl (atL dAX8_writesNumber_0 8 rfl) ?_
    refine v_aload_n hX 1 rfl (atL dAX8_writesNumber_0 9 rfl) ?_
    refine v_aload_n hX 1 rfl (atL dAX8_writesNumber_0 10 rfl) ?_
    refine v_callN hX (As := []) (rest := [.ref (w.1 14 i), .ref (w.1 13 0)]) (c_X7_bytes (xl X) w s1 i v hi hN1) lk_X8_217 hi (fun _ => rfl) rfl rfl rfl (by rw [hR]; exact ⟨Nat.le_of_ble_eq_true rfl, Nat.le_of_ble_eq_true rfl⟩) ⟨Nat.zero_le _, Nat.zero_le _⟩ rfl (Nat.le_of_ble_eq_true rfl) (atL dAX8_writesNumber_0 11 rfl) (fun r2 z2 g2 => ?_)
    obtain ⟨g2a, g2b⟩ := g2
    rw [g2b]
    subst g2a
    show V X _ w _ _ s1 [.int (iI (((nby v : Nat) : Int))), .ref (w.1 14 i), .ref (w.1 13 0)]
    refine v_callV hX (As := [.ref (w.1 14 i), .int (iI (((nby v : Nat) : Int)))]) (rest := []) (c_X8_putsNumber (xl X) w s1 hk0 [] hr1 i v hi hN1 (nby v) (by simp; omega)) lk_X8_267 hk0 (fun _ => rfl) rfl rfl rfl (by rw [hR]; exact ⟨Nat.le_of_ble_eq_true rfl, Nat.le_of_ble_eq_true rfl⟩) ⟨Nat.zero_le _, Nat.zero_le _⟩ rfl (Nat.le_of_ble_eq_true rfl) (atL dAX8_writesNumber_0 12 rfl) (fun _ s2 g3 => ?_)
    obtain ⟨g3a, g3b⟩ := g3
    rw [List.nil_append] at g3a
    show V X _ w _ _ s2 []
    refine v_aload_n hX 0 rfl (atL dAX8_writesNumber_0 13 rfl) ?_
    refine v_iload_n hX 2 rfl (atL dAX8_writesNumber_0 14 rfl) ?_
    refine v_callV hX (As := [.int (iI ((s : Int)))]) (rest := []) (c_X8_writes (xl X) w s2 hk0 (be v (nby v)) g3a (by rw [be_len]; omega) s hs) lk_X8_257 hk0 (fun _ => rfl) rfl rfl rfl (by rw [hR]; exact ⟨Nat.le_of_ble_eq_true rfl, Nat.le_of_ble_eq_true rfl⟩) ⟨Nat.zero_le _, Nat.zero_le _⟩ rfl (Nat.le_of_ble_eq_true rfl) (atL dAX8_writesNumber_0 15 rfl) (fun r4 s3 g4 => ?_)
    obtain ⟨g4a, g4b, g4c, g4d, g4f⟩ := g4
    rw [be_len] at g4a g4c
    subst g4a
    show V X _ w _ _ s3 [.int (iI (((nby v : Nat) : Int)))]
    exact v_iret hX (atL dAX8_writesNumber_0 16 rfl) (hret _ _ (Or.inr ⟨rfl, by omega, g4b, fun q hq => by rw [g4c q hq, g3b.1 13 0 (by simp), hf1.1 13 0 (by simp)], fun q hq => by rw [g4d q hq, g3b.1 13 1 (by simp), hf1.1 13 1 (by simp)], fun j hj => by rw [g4f 10 0 (by simp), g3b.2 j hj, hf1.2 j hj], ((hf1.1.mono (by simp)).tr' (g3b.1.mono (by simp))).tr' (g4f.mono (by simp))⟩))
  · refine v_bipush hX (by decide +kernel) (atL dAX8_writesNumber_0 4 rfl) ?_
    exact v_iret hX (atL dAX8_writesNumber_0 5 rfl) (hret _ _ (Or.inl ⟨rfl, by omega, rfl⟩))
