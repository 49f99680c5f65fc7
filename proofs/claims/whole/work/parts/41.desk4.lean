set_option maxHeartbeats 1000000 in
set_option maxRecDepth 100000 in
theorem c_X0_setDivisor (l : Launch) (w : Wl) (σ : St) (hk0 : w.2 7 0) (o m : Nat) (ho : w.2 3 o) (hM : WN σ o m) (hm0 : m ≠ 0) (hm7 : m < 268435456 ^ 79) (hd8 : WDg σ 8) : Cn l yX0_setDivisor cX0_setDivisor 2 none 1 28 wN [.ref (w.1 7 0), .ref (w.1 3 o)] w σ (fun _ σ' => (∃ t n, ND σ' m t n) ∧ Fr [(8, 0), (2, 8), (3, 8)] σ σ') := by
  refine Cn.of (own := RX0) (lv := [(0, .ref (w.1 7 0)), (1, .ref (w.1 3 o))]) (by decide +kernel) rfl (Nat.le_of_ble_eq_true rfl) rfl (fun X hX hxl hR hcl hret => ?_)
  subst hxl
  have h38 : w.2 3 8 := hcl 7 0 hk0 (3, 8) (by simp [mn, tp])
  have h39 : w.2 3 9 := hcl 7 0 hk0 (3, 9) (by simp [mn, tp])
  have hM0 := hM
  obtain ⟨u, hu, hu8, hd, ht, hv⟩ := hM
  have hu0 : 0 < u := by rcases Nat.eq_zero_or_pos u with h | h; exact absurd ((WN_0 ht hd hv).mp h) hm0; exact h
  refine v_aload_n hX 0 rfl (atL dAX0_setDivisor_0 0 rfl) ?_
  refine v_bipush hX (by decide +kernel) (atL dAX0_setDivisor_0 1 rfl) ?_
  refine v_aload_n hX 1 rfl (atL dAX0_setDivisor_0 2 rfl) ?_
  refine v_aload_n hX 1 rfl (atL dAX0_setDivisor_0 3 rfl) ?_
  refine gf_X0_89 hX (v := (u : Int)) (hu) ho (atL dAX0_setDivisor_0 4 rfl) ?_
  refine v_iconst hX (atL dAX0_setDivisor_0 5 rfl) ?_
  refine v_isub hX (iI_sub _ _) (atL dAX0_setDivisor_0 6 rfl) ?_
  refine v_callV hX (As := [.int (iI (((u : Int)) - 1))]) (rest := [.int (iI (28)), .ref (w.1 7 0)]) (c_X5_limbAt (xl X) w σ o u ho hu hu8 ((u : Int) - 1) ⟨by omega, by omega⟩) lk_X0_92 ho (fun _ => rfl) rfl rfl rfl (by rw [hR]; exact ⟨Nat.le_of_ble_eq_true rfl, Nat.le_of_ble_eq_true rfl⟩) ⟨Nat.zero_le _, Nat.zero_le _⟩ rfl (Nat.le_of_ble_eq_true rfl) (atL dAX0_setDivisor_0 7 rfl) (fun r1 s1 h1 => ?_)
  obtain ⟨hr1, hs1⟩ := h1
  rw [hs1]
  rw [if_pos ⟨by omega, by omega⟩, show ((u : Int) - 1).toNat = u - 1 by omega] at hr1
  have hdu := hd (u - 1)
  have htu := ht hu0
  have hr2 : r1 = (((σ 3 o (u - 1)).toNat : Nat) : Int) := by omega
  subst hr2
  have hd28 : blen (σ 3 o (u - 1)).toNat ≤ 28 := blen_le (dg_lt hd (u - 1))
  have hd1 := blen_pos (show (σ 3 o (u - 1)).toNat ≠ 0 by omega)
  have hbl := WN_bl ht hd hv hu0
  show V X _ w _ _ σ [.long (jI ((((σ 3 o (u - 1)).toNat : Nat) : Int))), .int (iI (28)), .ref (w.1 7 0)]
  refine v_callS hX (As := [.long (jI ((((σ 3 o (u - 1)).toNat : Nat) : Int)))]) (rest := [.int (iI (28)), .ref (w.1 7 0)]) (c_X5_widthOf (xl X) w σ (σ 3 o (u - 1)).toNat (by omega)) lk_X0_96 rfl (by rw [hR]; exact ⟨Nat.le_of_ble_eq_true rfl, Nat.le_of_ble_eq_true rfl⟩) ⟨Nat.zero_le _, Nat.zero_le _⟩ rfl (Nat.le_of_ble_eq_true rfl) (atL dAX0_setDivisor_0 8 rfl) (fun r3 s3 h3 => ?_)
  obtain ⟨hr3, hs3⟩ := h3
  rw [hs3]
  subst hr3
  show V X _ w _ _ σ [.int (iI ((blen (σ 3 o (u - 1)).toNat : Nat))), .int (iI (28)), .ref (w.1 7 0)]
  refine v_isub hX (iI_sub _ _) (atL dAX0_setDivisor_0 9 rfl) ?_
  obtain ⟨t, htd⟩ : ∃ t : Nat, t = 28 - blen (σ 3 o (u - 1)).toNat := ⟨_, rfl⟩
  rw [show (28 : Int) - (blen (σ 3 o (u - 1)).toNat : Nat) = (t : Int) by omega]
  refine pf_X0_21 hX hk0 (atL dAX0_setDivisor_0 10 rfl) ?_
  refine v_aload_n hX 0 rfl (atL dAX0_setDivisor_0 11 rfl) ?_
  refine gf_X0_18 hX hk0 (atL dAX0_setDivisor_0 12 rfl) ?_
  refine v_aload_n hX 1 rfl (atL dAX0_setDivisor_0 13 rfl) ?_
  refine v_aload_n hX 0 rfl (atL dAX0_setDivisor_0 14 rfl) ?_
  refine gf_X0_21 hX (v := (t : Int)) (su_s) hk0 (atL dAX0_setDivisor_0 15 rfl) ?_
  refine v_callV hX (As := [.ref (w.1 3 o), .int (iI ((t : Int)))]) (rest := []) (c_X5_shiftUp (xl X) w (su σ 8 0 0 ((t : Int))) 8 h38 (by intro j; rw [su_rc (by decide)]; exact hd8 j) o m ho (nm.fr hM0 (l := [(8, 0)]) (Fr.su (by simp)) (by simp) (by simp)) hm7 t (by omega)) lk_X0_79 h38 (fun _ => rfl) rfl rfl rfl (by rw [hR]; exact ⟨Nat.le_of_ble_eq_true rfl, Nat.le_of_ble_eq_true rfl⟩) ⟨Nat.zero_le _, Nat.zero_le _⟩ rfl (Nat.le_of_ble_eq_true rfl) (atL dAX0_setDivisor_0 16 rfl) (fun _ s5 h5 => ?_)
  obtain ⟨h5a, h5b⟩ := h5
  show V X _ w _ _ s5 []
  exact v_vret hX (atL dAX0_setDivisor_0 17 rfl) (hret () _ ⟨⟨t, ND_of hm0 (by rw [h5b 8 0 (by simp)]; exact su_s) hbl hd1 hd28 hu0 htd h5a⟩, ((Fr.su (by simp)).mono (l := [(8, 0)]) (by simp)).tr' (h5b.mono (by simp))⟩)

set_option maxHeartbeats 1000000 in
set_option maxRecDepth 100000 in
theorem c_X0_divide (l : Launch) (w : Wl) (σ : St) (hk0 : w.2 7 0) (o v : Nat) (ho : w.2 3 o) (hA : WN σ o v) (hv7 : v < 268435456 ^ 78) (ho8 : o ≠ 8) (b m : Nat) (hb : w.2 3 b) (hM : WN σ b m) (hm0 : m ≠ 0) (hm7 : m < 268435456 ^ 78) (r : Nat) (hr : w.2 3 r) (hdr : WDg σ r) (hr7 : r ≠ 7) (hr8 : r ≠ 8) (hr9 : r ≠ 9) (hd8 : WDg σ 8) (hd9 : WDg σ 9) (hd7 : WDg σ 7) : Cn l yX0_divide cX0_divide 4 none 2 64 wN [.ref (w.1 7 0), .ref (w.1 3 o), .ref (w.1 3 b), .ref (w.1 3 r)] w σ (fun _ σ' => WN σ' r (v % m) ∧ WN σ' 7 (v / m) ∧ WDg σ' 8 ∧ WDg σ' 9 ∧ Fr [(8, 0), (2, 8), (3, 8), (2, 9), (3, 9), (2, 7), (3, 7), (2, r), (3, r)] σ σ') := by
  refine Cn.of (own := RX0) (lv := [(0, .ref (w.1 7 0)), (1, .ref (w.1 3 o)), (2, .ref (w.1 3 b)), (3, .ref (w.1 3 r))]) (by decide +kernel) rfl (Nat.le_of_ble_eq_true rfl) rfl (fun X hX hxl hR hcl hret => ?_)
  subst hxl
  have h38 : w.2 3 8 := hcl 7 0 hk0 (3, 8) (by simp [mn, tp])
  have h39 : w.2 3 9 := hcl 7 0 hk0 (3, 9) (by simp [mn, tp])
  refine v_aload_n hX 0 rfl (atL dAX0_divide_0 0 rfl) ?_
  refine v_aload_n hX 2 rfl (atL dAX0_divide_0 1 rfl) ?_
  refine v_callV hX (As := [.ref (w.1 3 b)]) (rest := []) (c_X0_setDivisor (xl X) w σ hk0 b m hb hM hm0 (Nat.lt_of_lt_of_le hm7 (Nat.pow_le_pow_right (by omega) (by omega))) hd8) lk_X0_75 hk0 (fun _ => rfl) rfl rfl rfl (by rw [hR]; exact ⟨Nat.le_of_ble_eq_true rfl, Nat.le_of_ble_eq_true rfl⟩) ⟨Nat.zero_le _, Nat.zero_le _⟩ rfl (Nat.le_of_ble_eq_true rfl) (atL dAX0_divide_0 2 rfl) (fun _ s1 h1 => ?_)
  obtain ⟨⟨t, n, hND⟩, hf1⟩ := h1
  obtain ⟨q1, q2, q3, q4, q5, q6, q7, q8⟩ := id hND
  show V X _ w _ _ s1 []
  refine v_aload_n hX 0 rfl (atL dAX0_divide_0 3 rfl) ?_
  refine gf_X0_25 hX hk0 (atL dAX0_divide_0 4 rfl) ?_
  refine v_aload_n hX 1 rfl (atL dAX0_divide_0 5 rfl) ?_
  refine v_aload_n hX 0 rfl (atL dAX0_divide_0 6 rfl) ?_
  refine gf_X0_21 hX (v := (t : Int)) (q1) hk0 (atL dAX0_divide_0 7 rfl) ?_
  refine v_callV hX (As := [.ref (w.1 3 o), .int (iI ((t : Int)))]) (rest := []) (c_X5_shiftUp (xl X) w s1 9 h39 (hd9.fr hf1 (by simp)) o v ho (hA.fr hf1 (by simp; omega) (by simp; omega)) (Nat.lt_of_lt_of_le hv7 (Nat.pow_le_pow_right (by omega) (by omega))) t q2) lk_X0_79 h39 (fun _ => rfl) rfl rfl rfl (by rw [hR]; exact ⟨Nat.le_of_ble_eq_true rfl, Nat.le_of_ble_eq_true rfl⟩) ⟨Nat.zero_le _, Nat.zero_le _⟩ rfl (Nat.le_of_ble_eq_true rfl) (atL dAX0_divide_0 8 rfl) (fun _ s2 h2 => ?_)
  obtain ⟨h2a, hf2⟩ := h2
  have hND2 := hND.fr hf2 (by simp) (by simp) (by simp)
  obtain ⟨p1, p2, p3, p4, p5, p6, p7, p8⟩ := id hND2
  show V X _ w _ _ s2 []
  refine v_aload_n hX 0 rfl (atL dAX0_divide_0 9 rfl) ?_
  refine v_aload_n hX 0 rfl (atL dAX0_divide_0 10 rfl) ?_
  refine gf_X0_25 hX hk0 (atL dAX0_divide_0 11 rfl) ?_
  refine v_callV hX (As := [.ref (w.1 3 9)]) (rest := []) (c_X0_reduce (xl X) w s2 hk0 9 (v * 2 ^ t) h39 h2a (m_lt hv7 q2) (by decide) (by decide) ((hd7.fr hf1 (by simp)).fr hf2 (by simp)) n (m * 2 ^ t) p3 p4 p5 p6 p7 p8) lk_X0_83 hk0 (fun _ => rfl) rfl rfl rfl (by rw [hR]; exact ⟨Nat.le_of_ble_eq_true rfl, Nat.le_of_ble_eq_true rfl⟩) ⟨Nat.zero_le _, Nat.zero_le _⟩ rfl (Nat.le_of_ble_eq_true rfl) (atL dAX0_divide_0 12 rfl) (fun _ s3 h3 => ?_)
  obtain ⟨h3a, h3b, hf3⟩ := h3
  rw [Nat.mul_mod_mul_right] at h3a
  rw [Nat.mul_div_mul_right _ _ (Nat.two_pow_pos t)] at h3b
  have hl3 : s3 8 0 0 = (t : Int) := by rw [hf3 8 0 (by simp)]; exact p1
  show V X _ w _ _ s3 []
  refine v_aload_n hX 3 rfl (atL dAX0_divide_0 13 rfl) ?_
  refine v_aload_n hX 0 rfl (atL dAX0_divide_0 14 rfl) ?_
  refine gf_X0_25 hX hk0 (atL dAX0_divide_0 15 rfl) ?_
  refine v_aload_n hX 0 rfl (atL dAX0_divide_0 16 rfl) ?_
  refine gf_X0_21 hX (v := (t : Int)) (hl3) hk0 (atL dAX0_divide_0 17 rfl) ?_
  refine v_callV hX (As := [.ref (w.1 3 9), .int (iI ((t : Int)))]) (rest := []) (c_X5_shiftDown (xl X) w s3 r hr (((hdr.fr hf1 (by simp; omega)).fr hf2 (by simp; omega)).fr hf3 (by simp; omega)) 9 (v % m * 2 ^ t) h39 h3a (Ne.symm hr9) t (by omega) (Or.inl q2)) lk_X0_86 hr (fun _ => rfl) rfl rfl rfl (by rw [hR]; exact ⟨Nat.le_of_ble_eq_true rfl, Nat.le_of_ble_eq_true rfl⟩) ⟨Nat.zero_le _, Nat.zero_le _⟩ rfl (Nat.le_of_ble_eq_true rfl) (atL dAX0_divide_0 18 rfl) (fun _ s4 h4 => ?_)
  obtain ⟨h4a, hf4⟩ := h4
  rw [Nat.mul_div_cancel _ (Nat.two_pow_pos t)] at h4a
  show V X _ w _ _ s4 []
  exact v_vret hX (atL dAX0_divide_0 19 rfl) (hret () _ ⟨h4a, h3b.fr hf4 (by simp; omega) (by simp; omega), (p6.fr hf3 (by simp)).fr hf4 (by simp; omega), h3a.dg.fr hf4 (by simp; omega), (((hf1.mono (by simp)).tr' (hf2.mono (by simp))).tr' (hf3.mono (by simp))).tr' (hf4.mono (by simp))⟩)

set_option maxHeartbeats 1000000 in
set_option maxRecDepth 100000 in
theorem c_X0_multiply (l : Launch) (w : Wl) (σ : St) (hk0 : w.2 7 0) (o v : Nat) (ho : w.2 3 o) (hA : WN σ o v) (b m : Nat) (hb : w.2 3 b) (hM : WN σ b m) (r : Nat) (hr : w.2 3 r) (hdr : WDg σ r) (hor : o ≠ r) (hbr : b ≠ r) : Cn l yX0_multiply cX0_multiply 4 (Option.some Jvm.ClassFile.FieldType.boolean) 2 53 wI [.ref (w.1 7 0), .ref (w.1 3 o), .ref (w.1 3 b), .ref (w.1 3 r)] w σ (fun a σ' => (a = 0 ∧ 2049 < blen v + blen m ∧ σ' = σ) ∨ (a = 1 ∧ blen v + blen m ≤ 2049 ∧ WN σ' r (v * m) ∧ Fr [(2, r), (3, r)] σ σ')) := by
  refine Cn.of (own := RX0) (lv := [(0, .ref (w.1 7 0)), (1, .ref (w.1 3 o)), (2, .ref (w.1 3 b)), (3, .ref (w.1 3 r))]) (by decide +kernel) rfl (Nat.le_of_ble_eq_true rfl) rfl (fun X hX hxl hR hcl hret => ?_)
  subst hxl
  have h38 : w.2 3 8 := hcl 7 0 hk0 (3, 8) (by simp [mn, tp])
  have h39 : w.2 3 9 := hcl 7 0 hk0 (3, 9) (by simp [mn, tp])
  refine v_aload_n hX 1 rfl (atL dAX0_multiply_0 0 rfl) ?_
  refine v_callV hX (As := []) (rest := []) (c_X5_bitLength (xl X) w σ o v ho hA) lk_X0_67 ho (fun _ => rfl) rfl rfl rfl (by rw [hR]; exact ⟨Nat.le_of_ble_eq_true rfl, Nat.le_of_ble_eq_true rfl⟩) ⟨Nat.zero_le _, Nat.zero_le _⟩ rfl (Nat.le_of_ble_eq_true rfl) (atL dAX0_multiply_0 1 rfl) (fun r1 s1 h1 => ?_)
  obtain ⟨hr1, hs1⟩ := h1
  rw [hs1]
  subst hr1
  have b1 : blen v ≤ 2240 := blen_le hA.le
  have b2 : blen m ≤ 2240 := blen_le hM.le
  show V X _ w _ _ σ [.int (iI ((blen v : Nat)))]
  refine v_aload_n hX 2 rfl (atL dAX0_multiply_0 2 rfl) ?_
  refine v_callV hX (As := []) (rest := [.int (iI ((blen v : Nat)))]) (c_X5_bitLength (xl X) w σ b m hb hM) lk_X0_67 hb (fun _ => rfl) rfl rfl rfl (by rw [hR]; exact ⟨Nat.le_of_ble_eq_true rfl, Nat.le_of_ble_eq_true rfl⟩) ⟨Nat.zero_le _, Nat.zero_le _⟩ rfl (Nat.le_of_ble_eq_true rfl) (atL dAX0_multiply_0 3 rfl) (fun r2 s2 h2 => ?_)
  obtain ⟨hr2, hs2⟩ := h2
  rw [hs2]
  subst hr2
  show V X _ w _ _ σ [.int (iI ((blen m : Nat))), .int (iI ((blen v : Nat)))]
  refine v_iadd hX (iI_add _ _) (atL dAX0_multiply_0 4 rfl) ?_
  refine v_sipush hX (by decide +kernel) (atL dAX0_multiply_0 5 rfl) ?_
  refine v_icmp_le hX ⟨by omega, by omega⟩ ⟨by omega, by omega⟩ (tgt := 17) (atL dAX0_multiply_0 6 rfl) (by decide) (fun h12 => ?_) (fun h12 => ?_)
  · refine v_aload_n hX 3 rfl (atL dAX0_multiply_0 9 rfl) ?_
    refine v_aload_n hX 1 rfl (atL dAX0_multiply_0 10 rfl) ?_
    refine v_aload_n hX 2 rfl (atL dAX0_multiply_0 11 rfl) ?_
    refine v_callV hX (As := [.ref (w.1 3 o), .ref (w.1 3 b)]) (rest := []) (c_X5_setProduct (xl X) w σ r hr hdr o v ho hA b m hb hM hor hbr (Or.inr (by omega))) lk_X0_71 hr (fun _ => rfl) rfl rfl rfl (by rw [hR]; exact ⟨Nat.le_of_ble_eq_true rfl, Nat.le_of_ble_eq_true rfl⟩) ⟨Nat.zero_le _, Nat.zero_le _⟩ rfl (Nat.le_of_ble_eq_true rfl) (atL dAX0_multiply_0 12 rfl) (fun _ s3 h3 => ?_)
    obtain ⟨h3a, h3b⟩ := h3
    show V X _ w _ _ s3 []
    refine v_iconst hX (atL dAX0_multiply_0 13 rfl) ?_
    exact v_zret hX (by decide +kernel) (atL dAX0_multiply_0 14 rfl) (hret _ _ (Or.inr ⟨rfl, by omega, h3a, h3b⟩))
  · refine v_iconst hX (atL dAX0_multiply_0 7 rfl) ?_
    exact v_zret hX (by decide +kernel) (atL dAX0_multiply_0 8 rfl) (hret _ _ (Or.inl ⟨rfl, by omega, rfl⟩))
