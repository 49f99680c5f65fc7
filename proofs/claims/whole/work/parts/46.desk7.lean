set_option maxHeartbeats 1000000 in
set_option maxRecDepth 100000 in
theorem c_X0_findMultiple (l : Launch) (w : Wl) (σ : St) (hk0 : w.2 7 0) (o v : Nat) (ho : w.2 3 o) (hA : WN σ o v) (hv2 : v < 2 ^ 2048) (ho7 : o ≠ 7) (ho8 : o ≠ 8) (ho9 : o ≠ 9) (ho13 : o ≠ 13) (ho14 : o ≠ 14) (ho15 : o ≠ 15) (b m : Nat) (hb : w.2 3 b) (hM : WN σ b m) (hm2 : m < 2 ^ 2048) (hb7 : b ≠ 7) (hb8 : b ≠ 8) (hb9 : b ≠ 9) (hb13 : b ≠ 13) (hb14 : b ≠ 14) (hb15 : b ≠ 15) (r : Nat) (hr : w.2 3 r) (hdr : WDg σ r) (hr7 : r ≠ 7) (hr8 : r ≠ 8) (hr9 : r ≠ 9) (hr13 : r ≠ 13) (hr14 : r ≠ 14) (hr15 : r ≠ 15) (hbr : b ≠ r) (d7 : WDg σ 7) (d8 : WDg σ 8) (d9 : WDg σ 9) (d13 : WDg σ 13) (d14 : WDg σ 14) (d15 : WDg σ 15) : Cn l yX0_findMultiple cX0_findMultiple 4 (Option.some Jvm.ClassFile.FieldType.boolean) 4 111 wI [.ref (w.1 7 0), .ref (w.1 3 o), .ref (w.1 3 b), .ref (w.1 3 r)] w σ (fun a σ' => ((a = 1 ∧ WN σ' r (Nat.lcm v m)) ∨ (a = 0 ∧ 2 ^ 2048 ≤ Nat.lcm v m ∧ WDg σ' r)) ∧ WDg σ' 7 ∧ WDg σ' 8 ∧ WDg σ' 9 ∧ WDg σ' 13 ∧ WDg σ' 14 ∧ WDg σ' 15 ∧ Fr [(8, 0), (2, 7), (3, 7), (2, 8), (3, 8), (2, 9), (3, 9), (2, 13), (3, 13), (2, 14), (3, 14), (2, 15), (3, 15), (2, r), (3, r)] σ σ') := by
  refine Cn.of (own := RX0) (lv := [(0, .ref (w.1 7 0)), (1, .ref (w.1 3 o)), (2, .ref (w.1 3 b)), (3, .ref (w.1 3 r))]) (by decide +kernel) rfl (Nat.le_of_ble_eq_true rfl) rfl (fun X hX hxl hR hcl hret => ?_)
  subst hxl
  have hD3 : ∀ q, (3, q) ∈ mn σ 7 0 → w.2 3 q := fun q h => hcl 7 0 hk0 (3, q) h
  refine v_aload_n hX 1 rfl (atL dAX0_findMultiple_0 0 rfl) ?_
  refine v_callV hX (As := []) (rest := []) (c_X5_isZero (xl X) w σ o v ho hA) lk_X0_124 ho (fun _ => rfl) rfl rfl rfl (by rw [hR]; exact ⟨Nat.le_of_ble_eq_true rfl, Nat.le_of_ble_eq_true rfl⟩) ⟨Nat.zero_le _, Nat.zero_le _⟩ rfl (Nat.le_of_ble_eq_true rfl) (atL dAX0_findMultiple_0 1 rfl) (fun ra sa ha => ?_)
  obtain ⟨hza, hsa⟩ := ha
  rw [hsa]
  show V X _ w _ _ σ [.int (iI (ra))]
  refine v_if_ne hX ⟨by split at hza <;> omega, by split at hza <;> omega⟩ (tgt := 14) (atL dAX0_findMultiple_0 2 rfl) (by decide) (fun h4 => ?_) (fun h4 => ?_)
  · refine v_aload_n hX 3 rfl (atL dAX0_findMultiple_0 6 rfl) ?_
    refine v_lconst hX (atL dAX0_findMultiple_0 7 rfl) ?_
    show V X _ w _ _ _ (.long (jI (0)) :: _)
    refine v_callV hX (As := [.long (jI (0))]) (rest := []) (c_X5_setSmall (xl X) w σ r hr hdr 0 (by omega)) lk_X0_132 hr (fun _ => rfl) rfl rfl rfl (by rw [hR]; exact ⟨Nat.le_of_ble_eq_true rfl, Nat.le_of_ble_eq_true rfl⟩) ⟨Nat.zero_le _, Nat.zero_le _⟩ rfl (Nat.le_of_ble_eq_true rfl) (atL dAX0_findMultiple_0 8 rfl) (fun _ s1 h1 => ?_)
    obtain ⟨h1a, h1f⟩ := h1
    show V X _ w _ _ s1 []
    refine v_iconst hX (atL dAX0_findMultiple_0 9 rfl) ?_
    exact v_zret hX (by decide +kernel) (atL dAX0_findMultiple_0 10 rfl) (hret _ _ ⟨Or.inl ⟨rfl, by have hl : Nat.lcm v m = 0 := Nat.lcm_eq_zero_iff.mpr (Or.inl (by split at hza <;> omega)); rw [hl]; exact h1a⟩, d7.fr h1f (by simp; omega), d8.fr h1f (by simp; omega), d9.fr h1f (by simp; omega), d13.fr h1f (by simp; omega), d14.fr h1f (by simp; omega), d15.fr h1f (by simp; omega), h1f.mono (by simp)⟩)
  · refine v_aload_n hX 2 rfl (atL dAX0_findMultiple_0 3 rfl) ?_
    refine v_callV hX (As := []) (rest := []) (c_X5_isZero (xl X) w σ b m hb hM) lk_X0_124 hb (fun _ => rfl) rfl rfl rfl (by rw [hR]; exact ⟨Nat.le_of_ble_eq_true rfl, Nat.le_of_ble_eq_true rfl⟩) ⟨Nat.zero_le _, Nat.zero_le _⟩ rfl (Nat.le_of_ble_eq_true rfl) (atL dAX0_findMultiple_0 4 rfl) (fun rb sb hb0 => ?_)
    obtain ⟨hzb, hsb⟩ := hb0
    rw [hsb]
    show V X _ w _ _ σ [.int (iI (rb))]
    refine v_if_eq hX ⟨by split at hzb <;> omega, by split at hzb <;> omega⟩ (tgt := 21) (atL dAX0_findMultiple_0 5 rfl) (by decide) (fun h11 => ?_) (fun h11 => ?_)
    · refine v_aload_n hX 0 rfl (atL dAX0_findMultiple_0 11 rfl) ?_
      refine v_aload_n hX 1 rfl (atL dAX0_findMultiple_0 12 rfl) ?_
      refine v_aload_n hX 2 rfl (atL dAX0_findMultiple_0 13 rfl) ?_
      refine v_aload_n hX 0 rfl (atL dAX0_findMultiple_0 14 rfl) ?_
      refine gf_X0_43 hX hk0 (atL dAX0_findMultiple_0 15 rfl) ?_
      have hv0 : v ≠ 0 := by split at hza <;> omega
      have hm0 : m ≠ 0 := by split at hzb <;> omega
      have hgp : 0 < Nat.gcd v m := Nat.gcd_pos_of_pos_left m (by omega)
      have hgv : Nat.gcd v m ≤ v := Nat.gcd_le_left m (by omega)
      have hql : v / Nat.gcd v m ≤ v := Nat.div_le_self _ _
      have hlcm : v / Nat.gcd v m * m = Nat.lcm v m := by unfold Nat.lcm; exact Nat.div_mul_right_comm (Nat.gcd_dvd_left v m) m
      refine v_callV hX (As := [.ref (w.1 3 o), .ref (w.1 3 b), .ref (w.1 3 15)]) (rest := []) (c_X0_findDivisor (xl X) w σ hk0 o v ho hA hv2 ho13 b m hb hM hm2 hb13 hb14 15 (hD3 15 (by simp [mn, tp])) d15 (by decide) (by decide) (by decide) (by decide) (by decide) d7 d8 d9 d13 d14 d15) lk_X0_136 hk0 (fun _ => rfl) rfl rfl rfl (by rw [hR]; exact ⟨Nat.le_of_ble_eq_true rfl, Nat.le_of_ble_eq_true rfl⟩) ⟨Nat.zero_le _, Nat.zero_le _⟩ rfl (Nat.le_of_ble_eq_true rfl) (atL dAX0_findMultiple_0 16 rfl) (fun _ s2 h2 => ?_)
      obtain ⟨g15, g7, g8, g9, g13, g14, g15d, gf⟩ := h2
      show V X _ w _ _ s2 []
      refine v_aload_n hX 0 rfl (atL dAX0_findMultiple_0 17 rfl) ?_
      refine v_aload_n hX 1 rfl (atL dAX0_findMultiple_0 18 rfl) ?_
      refine v_aload_n hX 0 rfl (atL dAX0_findMultiple_0 19 rfl) ?_
      refine gf_X0_43 hX hk0 (atL dAX0_findMultiple_0 20 rfl) ?_
      refine v_aload_n hX 0 rfl (atL dAX0_findMultiple_0 21 rfl) ?_
      refine gf_X0_43 hX hk0 (atL dAX0_findMultiple_0 22 rfl) ?_
      refine v_callV hX (As := [.ref (w.1 3 o), .ref (w.1 3 15), .ref (w.1 3 15)]) (rest := []) (c_X0_divide (xl X) w s2 hk0 o v ho (hA.fr gf (by simp; omega) (by simp; omega)) (p2048 hv2) ho8 15 (Nat.gcd v m) (hD3 15 (by simp [mn, tp])) g15 (by omega) (p2048 (Nat.lt_of_le_of_lt hgv hv2)) 15 (hD3 15 (by simp [mn, tp])) g15d (by decide) (by decide) (by decide) g8 g9 g7) lk_X0_128 hk0 (fun _ => rfl) rfl rfl rfl (by rw [hR]; exact ⟨Nat.le_of_ble_eq_true rfl, Nat.le_of_ble_eq_true rfl⟩) ⟨Nat.zero_le _, Nat.zero_le _⟩ rfl (Nat.le_of_ble_eq_true rfl) (atL dAX0_findMultiple_0 23 rfl) (fun _ s3 h3 => ?_)
      obtain ⟨e15, e7, e8, e9, ef⟩ := h3
      show V X _ w _ _ s3 []
      refine v_aload_n hX 0 rfl (atL dAX0_findMultiple_0 24 rfl) ?_
      refine gf_X0_43 hX hk0 (atL dAX0_findMultiple_0 25 rfl) ?_
      refine v_aload_n hX 0 rfl (atL dAX0_findMultiple_0 26 rfl) ?_
      refine gf_X0_12 hX hk0 (atL dAX0_findMultiple_0 27 rfl) ?_
      refine v_callV hX (As := [.ref (w.1 3 7)]) (rest := []) (c_X5_set (xl X) w s3 15 (hD3 15 (by simp [mn, tp])) (WN.dg e15) 7 (v / Nat.gcd v m) (hD3 7 (by simp [mn, tp])) e7 (by decide)) lk_X0_121 (hD3 15 (by simp [mn, tp])) (fun _ => rfl) rfl rfl rfl (by rw [hR]; exact ⟨Nat.le_of_ble_eq_true rfl, Nat.le_of_ble_eq_true rfl⟩) ⟨Nat.zero_le _, Nat.zero_le _⟩ rfl (Nat.le_of_ble_eq_true rfl) (atL dAX0_findMultiple_0 28 rfl) (fun _ s4 h4 => ?_)
      obtain ⟨k15, kf⟩ := h4
      show V X _ w _ _ s4 []
      refine v_aload_n hX 0 rfl (atL dAX0_findMultiple_0 29 rfl) ?_
      refine v_aload_n hX 0 rfl (atL dAX0_findMultiple_0 30 rfl) ?_
      refine gf_X0_43 hX hk0 (atL dAX0_findMultiple_0 31 rfl) ?_
      refine v_aload_n hX 2 rfl (atL dAX0_findMultiple_0 32 rfl) ?_
      refine v_aload_n hX 3 rfl (atL dAX0_findMultiple_0 33 rfl) ?_
      refine v_callV hX (As := [.ref (w.1 3 15), .ref (w.1 3 b), .ref (w.1 3 r)]) (rest := []) (c_X0_multiply (xl X) w s4 hk0 15 (v / Nat.gcd v m) (hD3 15 (by simp [mn, tp])) k15 b m hb (((hM.fr gf (by simp; omega) (by simp; omega)).fr ef (by simp; omega) (by simp; omega)).fr kf (by simp; omega) (by simp; omega)) r hr (((hdr.fr gf (by simp; omega)).fr ef (by simp; omega)).fr kf (by simp; omega)) (by omega) hbr) lk_X0_139 hk0 (fun _ => rfl) rfl rfl rfl (by rw [hR]; exact ⟨Nat.le_of_ble_eq_true rfl, Nat.le_of_ble_eq_true rfl⟩) ⟨Nat.zero_le _, Nat.zero_le _⟩ rfl (Nat.le_of_ble_eq_true rfl) (atL dAX0_findMultiple_0 34 rfl) (fun rm s5 h5 => ?_)
      show V X _ w _ _ s5 [.int (iI (rm))]
      have fin : ∀ (s5 : St) (rm : Int), ((rm = 0 ∧ 2049 < blen (v / Nat.gcd v m) + blen m ∧ s5 = s4) ∨ (rm = 1 ∧ blen (v / Nat.gcd v m) + blen m ≤ 2049 ∧ WN s5 r (v / Nat.gcd v m * m) ∧ Fr [(2, r), (3, r)] s4 s5)) → ((rm = 1 ∧ WN s5 r (Nat.lcm v m)) ∨ (rm = 0 ∧ 2 ^ 2048 ≤ Nat.lcm v m ∧ WDg s5 r)) ∧ WDg s5 7 ∧ WDg s5 8 ∧ WDg s5 9 ∧ WDg s5 13 ∧ WDg s5 14 ∧ WDg s5 15 ∧ Fr [(8, 0), (2, 7), (3, 7), (2, 8), (3, 8), (2, 9), (3, 9), (2, 13), (3, 13), (2, 14), (3, 14), (2, 15), (3, 15), (2, r), (3, r)] σ s5 := by
        intro s5 rm h5
        have f4 : Fr [(8, 0), (2, 7), (3, 7), (2, 8), (3, 8), (2, 9), (3, 9), (2, 13), (3, 13), (2, 14), (3, 14), (2, 15), (3, 15), (2, r), (3, r)] σ s4 := ((gf.mono (by simp)).tr' (ef.mono (by simp))).tr' (kf.mono (by simp))
        have a7 := (WN.dg e7).fr kf (by simp)
        have a8 := e8.fr kf (by simp)
        have a9 := e9.fr kf (by simp)
        have a13 := (g13.fr ef (by simp)).fr kf (by simp)
        have a14 := (g14.fr ef (by simp)).fr kf (by simp)
        rcases h5 with ⟨h, hb2, hs⟩ | ⟨h, hb2, hw, hf⟩
        · subst hs
          refine ⟨Or.inr ⟨h, ?_, ((hdr.fr gf (by simp; omega)).fr ef (by simp; omega)).fr kf (by simp; omega)⟩, a7, a8, a9, a13, a14, WN.dg k15, f4⟩
          rw [← hlcm]
          have q0 : v / Nat.gcd v m ≠ 0 := by have := Nat.div_pos hgv hgp; omega
          have q1 := blen_ge q0
          have q2 := blen_ge hm0
          have q3 := blen_pos q0
          have q4 := blen_pos hm0
          have q5 := Nat.mul_le_mul q1 q2
          rw [← Nat.pow_add] at q5
          exact Nat.le_trans (Nat.pow_le_pow_right (by omega) (by omega)) q5
        · rw [hlcm] at hw
          exact ⟨Or.inl ⟨h, hw⟩, a7.fr hf (by simp; omega), a8.fr hf (by simp; omega), a9.fr hf (by simp; omega), a13.fr hf (by simp; omega), a14.fr hf (by simp; omega), (WN.dg k15).fr hf (by simp; omega), f4.tr' (hf.mono (by simp))⟩
      exact v_zret hX (by rcases h5 with ⟨h, _⟩ | ⟨h, _⟩ <;> subst h <;> decide +kernel) (atL dAX0_findMultiple_0 35 rfl) (hret _ _ (fin s5 rm h5))
    · refine v_aload_n hX 3 rfl (atL dAX0_findMultiple_0 6 rfl) ?_
      refine v_lconst hX (atL dAX0_findMultiple_0 7 rfl) ?_
      show V X _ w _ _ _ (.long (jI (0)) :: _)
      refine v_callV hX (As := [.long (jI (0))]) (rest := []) (c_X5_setSmall (xl X) w σ r hr hdr 0 (by omega)) lk_X0_132 hr (fun _ => rfl) rfl rfl rfl (by rw [hR]; exact ⟨Nat.le_of_ble_eq_true rfl, Nat.le_of_ble_eq_true rfl⟩) ⟨Nat.zero_le _, Nat.zero_le _⟩ rfl (Nat.le_of_ble_eq_true rfl) (atL dAX0_findMultiple_0 8 rfl) (fun _ s1 h1 => ?_)
      obtain ⟨h1a, h1f⟩ := h1
      show V X _ w _ _ s1 []
      refine v_iconst hX (atL dAX0_findMultiple_0 9 rfl) ?_
      exact v_zret hX (by decide +kernel) (atL dAX0_findMultiple_0 10 rfl) (hret _ _ ⟨Or.inl ⟨rfl, by have hl : Nat.lcm v m = 0 := Nat.lcm_eq_zero_iff.mpr (Or.inr (by split at hzb <;> omega)); rw [hl]; exact h1a⟩, d7.fr h1f (by simp; omega), d8.fr h1f (by simp; omega), d9.fr h1f (by simp; omega), d13.fr h1f (by simp; omega), d14.fr h1f (by simp; omega), d15.fr h1f (by simp; omega), h1f.mono (by simp)⟩)
