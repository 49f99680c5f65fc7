set_option maxHeartbeats 1000000 in
set_option maxRecDepth 100000 in
theorem c_X5_shiftUp (l : Launch) (w : Wl) (σ : St) (i : Nat) (hi : w.2 3 i) (hdi : WDg σ i) (o v : Nat) (ho : w.2 3 o) (hM : WN σ o v) (hv7 : v < 268435456 ^ 79) (t : Nat) (ht28 : t < 28) : Cn l yX5_shiftUp cX5_shiftUp 9 none 0 0 wN [.ref (w.1 3 i), .ref (w.1 3 o), .int (iI ((t : Int)))] w σ (fun _ σ' => WN σ' i (v * 2 ^ t) ∧ Fr [(2, i), (3, i)] σ σ') := by
  refine Cn.of (own := RX5) (lv := [(0, .ref (w.1 3 i)), (1, .ref (w.1 3 o)), (2, .int (iI ((t : Int))))]) (by decide +kernel) rfl (Nat.le_of_ble_eq_true rfl) rfl (fun X hX hxl hR hcl hret => ?_)
  subst hxl
  have hi2 : w.2 4 i := hcl 3 i hi (4, i) (by simp [mn, tp])
  have ho2 : w.2 4 o := hcl 3 o ho (4, o) (by simp [mn, tp])
  obtain ⟨u, hu, hu8, hd, ht, hv⟩ := hM
  have hu7 := used_le hd ht hv hv7
  have hdg : ∀ j, j < u → σ 3 o j = (dgt v j : Int) := fun j hj => by rw [← dgt_WN hd hv j, if_pos hj]
  have hp := p2_27 ht28
  have hvu := used_lt_pow hd hv (Nat.le_refl u)
  have hge : 0 < u → 268435456 ^ (u - 1) ≤ v := WN.ge hd ht hv
  have loop : ∀ (d m c : Nat) (s : St), m + d = u → c < 2 ^ t → WDg s i → Fr [(2, i), (3, i)] σ s → (∀ j, m ≤ j → s 3 i j = σ 3 i j) → ((vB 268435456 (fW s i) m : Nat) : Int) + (c : Int) * ((268435456 ^ m : Nat) : Int) = ((vB 268435456 (dgt v) m : Nat) : Int) * ((2 ^ t : Nat) : Int) → V X (0, 0) w 25 [(6, .int (iI ((m : Int)))), (4, .long (jI ((c : Int)))), (3, .int (iI ((u : Int)))), (0, .ref (w.1 3 i)), (1, .ref (w.1 3 o)), (2, .int (iI ((t : Int))))] s [] := by
    intro d
    induction d with
    | zero =>
      intro m c s hm hc hds hfr hag hval
      obtain rfl : m = u := by omega
      have hfin : vB 268435456 (fW (su s 3 i m (c : Int)) i) (m + 1) = v * 2 ^ t := by
        have e := vB_suS (σ := s) (i := i) (m := m) (v := (c : Int)) (by omega)
        rw [dgt_all hvu, ← Int.natCast_mul] at hval
        omega
      refine v_iload hX 0 rfl (atL dAX5_shiftUp_0 13 rfl) ?_
      refine v_iload_n hX 2 rfl (atL dAX5_shiftUp_0 14 rfl) ?_
      refine v_icmp_ge hX ⟨by omega, by omega⟩ ⟨by omega, by omega⟩ (tgt := 71) (atL dAX5_shiftUp_0 15 rfl) (by decide) (fun h28 => ?_) (fun h28 => absurd h28 (by omega))
      refine v_aload_n hX 3 rfl (atL dAX5_shiftUp_0 38 rfl) ?_
      refine gf_X5_9 hX hi (atL dAX5_shiftUp_0 39 rfl) ?_
      refine v_iload_n hX 2 rfl (atL dAX5_shiftUp_0 40 rfl) ?_
      refine v_lload hX 1 rfl (atL dAX5_shiftUp_0 41 rfl) ?_
      refine v_last hX (c := 3) m hi2 (by decide) (fun _ _ => rfl) rfl (by omega) (by decide) (atL dAX5_shiftUp_0 42 rfl) ?_
      refine v_aload_n hX 3 rfl (atL dAX5_shiftUp_0 43 rfl) ?_
      refine v_lload hX 1 rfl (atL dAX5_shiftUp_0 44 rfl) ?_
      refine v_lconst hX (atL dAX5_shiftUp_0 45 rfl) ?_
      show V X _ w _ _ _ (.long (jI (0)) :: _)
      refine v_lcmp_ne hX ⟨by omega, by omega⟩ ⟨by omega, by omega⟩ (atL dAX5_shiftUp_0 46 rfl) (tgt := 91) (atL dAX5_shiftUp_0 47 rfl) (by decide) (fun h83 => ?_) (fun h83 => ?_)
      · refine v_iload_n hX 2 rfl (atL dAX5_shiftUp_0 50 rfl) ?_
        refine v_iconst hX (atL dAX5_shiftUp_0 51 rfl) ?_
        refine v_iadd hX (iI_add _ _) (atL dAX5_shiftUp_0 52 rfl) ?_
        refine pf_X5_13 hX hi (atL dAX5_shiftUp_0 53 rfl) ?_
        exact v_vret hX (atL dAX5_shiftUp_0 54 rfl) (hret () _ ⟨⟨m + 1, su_s, by omega, by rw [su_rc (by decide)]; exact hds.su ⟨by omega, by omega⟩, fun _ => by rw [su_rc (by decide), show m + 1 - 1 = m by omega, su_s]; omega, by rw [su_rc (by decide)]; exact hfin⟩, (hfr.tr' (Fr.su (by simp))).tr' (Fr.su (by simp))⟩)
      · have hfin0 : vB 268435456 (fW (su s 3 i m (c : Int)) i) m = v * 2 ^ t := by
          rw [vB_suc] at hfin
          have e9 : fW (su s 3 i m (c : Int)) i m = 0 := by show (su s 3 i m (c : Int) 3 i m).toNat = 0; rw [su_s]; omega
          rw [e9, Nat.zero_mul] at hfin
          exact hfin
        refine v_iload_n hX 2 rfl (atL dAX5_shiftUp_0 48 rfl) ?_
        refine v_goto hX (tgt := 94) (atL dAX5_shiftUp_0 49 rfl) (by decide) ?_
        refine pf_X5_13 hX hi (atL dAX5_shiftUp_0 53 rfl) ?_
        exact v_vret hX (atL dAX5_shiftUp_0 54 rfl) (hret () _ ⟨⟨m, su_s, by omega, by rw [su_rc (by decide)]; exact hds.su ⟨by omega, by omega⟩, fun h0 => by rw [su_rc (by decide)]; exact nm_top (hds.su ⟨by omega, by omega⟩) h0 hfin0 (Nat.le_trans (hge h0) (Nat.le_mul_of_pos_right v (Nat.two_pow_pos t))), by rw [su_rc (by decide)]; exact hfin0⟩, (hfr.tr' (Fr.su (by simp))).tr' (Fr.su (by simp))⟩)
    | succ d ih =>
      intro m c s hm hc hds hfr hag hval
      have hdm := dgt_lt v m
      have hro : s 3 o m = σ 3 o m := by by_cases e : o = i; rw [e]; exact hag m (Nat.le_refl m); rw [hfr 3 o (by simp [e])]
      have hb := shl_bound hdm hc
      refine v_iload hX 0 rfl (atL dAX5_shiftUp_0 13 rfl) ?_
      refine v_iload_n hX 2 rfl (atL dAX5_shiftUp_0 14 rfl) ?_
      refine v_icmp_ge hX ⟨by omega, by omega⟩ ⟨by omega, by omega⟩ (tgt := 71) (atL dAX5_shiftUp_0 15 rfl) (by decide) (fun h28 => absurd h28 (by omega)) (fun h28 => ?_)
      refine v_aload_n hX 4 rfl (atL dAX5_shiftUp_0 16 rfl) ?_
      refine gf_X5_9 hX ho (atL dAX5_shiftUp_0 17 rfl) ?_
      refine v_iload hX 0 rfl (atL dAX5_shiftUp_0 18 rfl) ?_
      refine v_lald hX (r := jI ((dgt v m : Int))) m ho2 (fun _ => rfl) rfl (by omega) (by decide) (congrArg jI (hro.trans (hdg m (by omega)))) (atL dAX5_shiftUp_0 19 rfl) ?_
      refine v_iload_n hX 5 rfl (atL dAX5_shiftUp_0 20 rfl) ?_
      refine v_lshl hX (r := jI (((dgt v m * 2 ^ t : Nat) : Int))) (by rw [jI_shl _ t (by omega), ← Int.natCast_mul]) (atL dAX5_shiftUp_0 21 rfl) ?_
      refine v_lload hX 1 rfl (atL dAX5_shiftUp_0 22 rfl) ?_
      refine v_lor hX (r := jI (((dgt v m * 2 ^ t + c : Nat) : Int))) (jI_or (k := t) hc (Nat.dvd_mul_left _ _) (by omega)) (atL dAX5_shiftUp_0 23 rfl) ?_
      have hMd : ((dgt v m * 2 ^ t + c : Nat) : Int) = (dgt v m : Int) * ((2 ^ t : Nat) : Int) + (c : Int) := by rw [Int.natCast_add, Int.natCast_mul]
      obtain ⟨M, hM⟩ : ∃ M, dgt v m * 2 ^ t + c = M := ⟨_, rfl⟩
      rw [hM] at hb hMd ⊢
      refine v_lstore hX (lv' := [(7, .long (jI ((M : Int)))), (6, .int (iI ((m : Int)))), (4, .long (jI ((c : Int)))), (3, .int (iI ((u : Int)))), (0, .ref (w.1 3 i)), (1, .ref (w.1 3 o)), (2, .int (iI ((t : Int))))]) (Nat.le_of_ble_eq_true rfl) rfl (atL dAX5_shiftUp_0 24 rfl) ?_
      refine v_aload_n hX 4 rfl (atL dAX5_shiftUp_0 25 rfl) ?_
      refine gf_X5_9 hX hi (atL dAX5_shiftUp_0 26 rfl) ?_
      refine v_iload hX 1 rfl (atL dAX5_shiftUp_0 27 rfl) ?_
      refine v_lload hX 0 rfl (atL dAX5_shiftUp_0 28 rfl) ?_
      refine v_ldc2 hX (r := 268435455) wd_413 (by decide +kernel) (atL dAX5_shiftUp_0 29 rfl) ?_
      refine v_land hX (r := jI (((M : Int)) % 268435456)) (jI_mask _ 28 (by decide)) (atL dAX5_shiftUp_0 30 rfl) ?_
      refine v_last hX (c := 3) m hi2 (by decide) (fun _ _ => rfl) rfl (by omega) (by decide) (atL dAX5_shiftUp_0 31 rfl) ?_
      refine v_lload hX 0 rfl (atL dAX5_shiftUp_0 32 rfl) ?_
      refine v_bipush hX (by decide +kernel) (atL dAX5_shiftUp_0 33 rfl) ?_
      refine v_lshr hX (r := jI (((M : Int)) / 268435456)) (jI_shr ⟨by omega, by omega⟩ 28 (by decide)) (atL dAX5_shiftUp_0 34 rfl) ?_
      refine v_lstore hX (lv' := [(4, .long (jI (((M : Int)) / 268435456))), (7, .long (jI ((M : Int)))), (6, .int (iI ((m : Int)))), (3, .int (iI ((u : Int)))), (0, .ref (w.1 3 i)), (1, .ref (w.1 3 o)), (2, .int (iI ((t : Int))))]) (Nat.le_of_ble_eq_true rfl) rfl (atL dAX5_shiftUp_0 35 rfl) ?_
      refine v_iinc hX (lv' := [(6, .int (iI (((m : Int)) + 1))), (4, .long (jI (((M : Int)) / 268435456))), (7, .long (jI ((M : Int)))), (3, .int (iI ((u : Int)))), (0, .ref (w.1 3 i)), (1, .ref (w.1 3 o)), (2, .int (iI ((t : Int))))]) 2 rfl (iI_add _ _) (Nat.le_of_ble_eq_true rfl) rfl (atL dAX5_shiftUp_0 36 rfl) ?_
      refine v_goto hX (tgt := 25) (atL dAX5_shiftUp_0 37 rfl) (by decide) ?_
      refine v_sub (lv' := [(6, .int (iI (((m : Int)) + 1))), (4, .long (jI (((M : Int)) / 268435456))), (3, .int (iI ((u : Int)))), (0, .ref (w.1 3 i)), (1, .ref (w.1 3 o)), (2, .int (iI ((t : Int))))]) [0, 1, 3, 4, 5, 6] rfl ?_
      rw [show (M : Int) / 268435456 = ((M / 268435456 : Nat) : Int) by omega]
      refine ih (m + 1) _ _ (by omega) (Nat.div_lt_of_lt_mul hb) (hds.su ⟨by omega, by omega⟩) (hfr.tr' (Fr.su (by simp))) (fun j hj => by rw [su_j (by omega)]; exact hag j (by omega)) ?_
      rw [vB_suS (by omega), dgt_suc, pS]
      exact shl_step hval hMd (by omega)
  refine v_aload_n hX 1 rfl (atL dAX5_shiftUp_0 0 rfl) ?_
  refine gf_X5_13 hX (v := (u : Int)) (hu) ho (atL dAX5_shiftUp_0 1 rfl) ?_
  refine v_bipush hX (by decide +kernel) (atL dAX5_shiftUp_0 2 rfl) ?_
  refine v_icmp_ge hX ⟨by omega, by omega⟩ ⟨by omega, by omega⟩ (tgt := 16) (atL dAX5_shiftUp_0 3 rfl) (by decide) (fun h6 => absurd h6 (by omega)) (fun h6 => ?_)
  refine v_aload_n hX 1 rfl (atL dAX5_shiftUp_0 4 rfl) ?_
  refine gf_X5_13 hX (v := (u : Int)) (hu) ho (atL dAX5_shiftUp_0 5 rfl) ?_
  refine v_goto hX (tgt := 18) (atL dAX5_shiftUp_0 6 rfl) (by decide) ?_
  refine v_istore_n hX (i := 3) rfl (lv' := [(3, .int (iI ((u : Int)))), (0, .ref (w.1 3 i)), (1, .ref (w.1 3 o)), (2, .int (iI ((t : Int))))]) (Nat.le_of_ble_eq_true rfl) rfl (atL dAX5_shiftUp_0 8 rfl) ?_
  refine v_lconst hX (atL dAX5_shiftUp_0 9 rfl) ?_
  show V X _ w _ _ _ (.long (jI (0)) :: _)
  refine v_lstore hX (lv' := [(4, .long (jI (0))), (3, .int (iI ((u : Int)))), (0, .ref (w.1 3 i)), (1, .ref (w.1 3 o)), (2, .int (iI ((t : Int))))]) (Nat.le_of_ble_eq_true rfl) rfl (atL dAX5_shiftUp_0 10 rfl) ?_
  refine v_iconst hX (atL dAX5_shiftUp_0 11 rfl) ?_
  refine v_istore hX (lv' := [(6, .int (iI (0))), (4, .long (jI (0))), (3, .int (iI ((u : Int)))), (0, .ref (w.1 3 i)), (1, .ref (w.1 3 o)), (2, .int (iI ((t : Int))))]) (Nat.le_of_ble_eq_true rfl) rfl (atL dAX5_shiftUp_0 12 rfl) ?_
  exact loop u 0 0 σ (by omega) (Nat.two_pow_pos t) hdi Fr.rf (fun j _ => rfl) (by show (0 : Int) + 0 * _ = 0 * _; omega)

set_option maxHeartbeats 1000000 in
set_option maxRecDepth 100000 in
theorem c_X5_shiftDown (l : Launch) (w : Wl) (σ : St) (i : Nat) (hi : w.2 3 i) (hdi : WDg σ i) (o v : Nat) (ho : w.2 3 o) (hM : WN σ o v) (hne : o ≠ i) (t : Nat) (ht4 : t < 2240) (hj0 : t < 28 ∨ 2 ^ t ≤ v) : Cn l yX5_shiftDown cX5_shiftDown 9 none 1 22 wN [.ref (w.1 3 i), .ref (w.1 3 o), .int (iI ((t : Int)))] w σ (fun _ σ' => WN σ' i (v / 2 ^ t) ∧ Fr [(2, i), (3, i)] σ σ') := by
  refine Cn.of (own := RX5) (lv := [(0, .ref (w.1 3 i)), (1, .ref (w.1 3 o)), (2, .int (iI ((t : Int))))]) (by decide +kernel) rfl (Nat.le_of_ble_eq_true rfl) rfl (fun X hX hxl hR hcl hret => ?_)
  subst hxl
  have hi2 : w.2 4 i := hcl 3 i hi (4, i) (by simp [mn, tp])
  have ho2 : w.2 4 o := hcl 3 o ho (4, o) (by simp [mn, tp])
  obtain ⟨u, hu, hu8, hd, ht, hv⟩ := hM
  have hj : t / 28 ≤ u := by
    rcases hj0 with h | h
    · omega
    · rcases Nat.lt_or_ge u (t / 28) with h2 | h2
      · exfalso
        have h3 := used_lt_pow hd hv (Nat.le_refl u)
        rw [p28] at h3
        have h4 : 2 ^ (28 * u) ≤ 2 ^ t := Nat.pow_le_pow_right (by omega) (by omega)
        omega
      · exact h2
  have hvu := used_lt_pow hd hv (Nat.le_refl u)
  have loop : ∀ (d m : Nat) (s : St), m + d = u - t / 28 → WDg s i → Fr [(2, i), (3, i)] σ s → vB 268435456 (fW s i) m = vB 268435456 (dgt (v / 2 ^ t)) m → V X (0, 0) w 22 [(6, .int (iI ((m : Int)))), (5, .int (iI ((u : Int) - (t : Int) / 28))), (4, .int (iI ((t : Int) % 28))), (3, .int (iI ((t : Int) / 28))), (0, .ref (w.1 3 i)), (1, .ref (w.1 3 o)), (2, .int (iI ((t : Int))))] s [] := by
    intro d
    induction d with
    | zero =>
      intro m s hm hds hfr hval
      refine v_iload hX 0 rfl (atL dAX5_shiftDown_0 15 rfl) ?_
      refine v_iload hX 1 rfl (atL dAX5_shiftDown_0 16 rfl) ?_
      refine v_icmp_ge hX ⟨by omega, by omega⟩ ⟨by omega, by omega⟩ (tgt := 75) (atL dAX5_shiftDown_0 17 rfl) (by decide) (fun h26 => ?_) (fun h26 => absurd h26 (by omega))
      refine v_aload_n hX 4 rfl (atL dAX5_shiftDown_0 45 rfl) ?_
      have hmm : (u : Int) - (t : Int) / 28 = (m : Int) := by omega
      refine v_iload hX 1 rfl (atL dAX5_shiftDown_0 46 rfl) ?_
      rw [hmm]
      refine v_callV hX (As := [.int (iI ((m : Int)))]) (rest := []) (c_X5_trim (xl X) w s i m hi hds (by omega)) lk_X5_29 hi (fun _ => rfl) rfl rfl rfl (by rw [hR]; exact ⟨Nat.le_of_ble_eq_true rfl, Nat.le_of_ble_eq_true rfl⟩) ⟨Nat.zero_le _, Nat.zero_le _⟩ rfl (Nat.le_of_ble_eq_true rfl) (atL dAX5_shiftDown_0 47 rfl) (fun _ s1 h1 => ?_)
      obtain ⟨tt, h1a, rfl, h1b, h1c⟩ := h1
      show V X _ w _ _ (su s 2 i 0 ((tt : Int))) []
      exact v_vret hX (atL dAX5_shiftDown_0 48 rfl) (hret () _ ⟨trim_nm hds (by omega) h1a h1b h1c (by rw [hval]; exact dgt_all (by have := shd_lt hvu hj; rw [show m = u - t / 28 by omega]; exact this)), hfr.tr' (Fr.su (by simp))⟩)
    | succ d ih =>
      intro m s hm hds hfr hval
      have hro : s 3 o = σ 3 o := hfr 3 o (by simp [hne])
      have hr2 : s 2 o = σ 2 o := hfr 2 o (by simp [hne])
      have hsd := shd_dig v t m
      refine v_iload hX 0 rfl (atL dAX5_shiftDown_0 15 rfl) ?_
      refine v_iload hX 1 rfl (atL dAX5_shiftDown_0 16 rfl) ?_
      refine v_icmp_ge hX ⟨by omega, by omega⟩ ⟨by omega, by omega⟩ (tgt := 75) (atL dAX5_shiftDown_0 17 rfl) (by decide) (fun h26 => absurd h26 (by omega)) (fun h26 => ?_)
      refine v_aload_n hX 5 rfl (atL dAX5_shiftDown_0 18 rfl) ?_
      refine v_iload hX 0 rfl (atL dAX5_shiftDown_0 19 rfl) ?_
      refine v_iload_n hX 3 rfl (atL dAX5_shiftDown_0 20 rfl) ?_
      refine v_iadd hX (iI_add _ _) (atL dAX5_shiftDown_0 21 rfl) ?_
      refine v_callV hX (As := [.int (iI (((m : Int)) + ((t : Int) / 28)))]) (rest := []) (c_X5_limbAt (xl X) w s o u ho (by rw [hr2]; exact hu) hu8 ((m : Int) + (t : Int) / 28) ⟨by omega, by omega⟩) lk_X5_17 ho (fun _ => rfl) rfl rfl rfl (by rw [hR]; exact ⟨Nat.le_of_ble_eq_true rfl, Nat.le_of_ble_eq_true rfl⟩) ⟨Nat.zero_le _, Nat.zero_le _⟩ rfl (Nat.le_of_ble_eq_true rfl) (atL dAX5_shiftDown_0 22 rfl) (fun ra sra hra => ?_)
      obtain ⟨hraa, hsra⟩ := hra
      rw [hsra]
      have hrab : ra = (dgt v (m + t / 28) : Int) := by rw [← dgt_WN hd hv (m + t / 28), hraa, show ((m : Int) + (t : Int) / 28 : Int).toNat = m + t / 28 by omega, hro]; split <;> split <;> first | rfl | omega
      subst hrab
      have hrac := dgt_lt v (m + t / 28)
      show V X _ w _ _ s [.long (jI ((dgt v (m + t / 28) : Int)))]
      refine v_aload_n hX 5 rfl (atL dAX5_shiftDown_0 23 rfl) ?_
      refine v_iload hX 0 rfl (atL dAX5_shiftDown_0 24 rfl) ?_
      refine v_iload_n hX 3 rfl (atL dAX5_shiftDown_0 25 rfl) ?_
      refine v_iadd hX (iI_add _ _) (atL dAX5_shiftDown_0 26 rfl) ?_
      refine v_iconst hX (atL dAX5_shiftDown_0 27 rfl) ?_
      refine v_iadd hX (iI_add _ _) (atL dAX5_shiftDown_0 28 rfl) ?_
      refine v_callV hX (As := [.int (iI ((((m : Int)) + ((t : Int) / 28)) + 1))]) (rest := [.long (jI ((dgt v (m + t / 28) : Int)))]) (c_X5_limbAt (xl X) w s o u ho (by rw [hr2]; exact hu) hu8 ((m : Int) + (t : Int) / 28 + 1) ⟨by omega, by omega⟩) lk_X5_17 ho (fun _ => rfl) rfl rfl rfl (by rw [hR]; exact ⟨Nat.le_of_ble_eq_true rfl, Nat.le_of_ble_eq_true rfl⟩) ⟨Nat.zero_le _, Nat.zero_le _⟩ rfl (Nat.le_of_ble_eq_true rfl) (atL dAX5_shiftDown_0 29 rfl) (fun rb srb hrb => ?_)
      obtain ⟨hrba, hsrb⟩ := hrb
      rw [hsrb]
      have hrbb : rb = (dgt v (m + t / 28 + 1) : Int) := by rw [← dgt_WN hd hv (m + t / 28 + 1), hrba, show ((m : Int) + (t : Int) / 28 + 1 : Int).toNat = m + t / 28 + 1 by omega, hro]; split <;> split <;> first | rfl | omega
      subst hrbb
      have hrbc := dgt_lt v (m + t / 28 + 1)
      show V X _ w _ _ s [.long (jI ((dgt v (m + t / 28 + 1) : Int))), .long (jI ((dgt v (m + t / 28) : Int)))]
      refine v_bipush hX (by decide +kernel) (atL dAX5_shiftDown_0 30 rfl) ?_
      refine v_lshl hX (r := jI (((dgt v (m + t / 28 + 1) : Int)) * 268435456)) (jI_shl _ 28 (by decide)) (atL dAX5_shiftDown_0 31 rfl) ?_
      refine v_lor hX (r := jI (((dgt v (m + t / 28) + dgt v (m + t / 28 + 1) * 268435456 : Nat) : Int))) (by rw [show (dgt v (m + t / 28 + 1) : Int) * 268435456 = ((dgt v (m + t / 28 + 1) * 268435456 : Nat) : Int) by omega]; exact jI_or2 (k := 28) hrac ⟨dgt v (m + t / 28 + 1), Nat.mul_comm _ _⟩ (by omega)) (atL dAX5_shiftDown_0 32 rfl) ?_
      obtain ⟨M, hM⟩ : ∃ M, dgt v (m + t / 28) + dgt v (m + t / 28 + 1) * 268435456 = M := ⟨_, rfl⟩
      have hMb : M < 72057594037927936 := by omega
      rw [hM] at hsd ⊢
      have hMl : M / 2 ^ (t % 28) ≤ M := Nat.div_le_self _ _
      refine v_lstore hX (lv' := [(7, .long (jI ((M : Int)))), (6, .int (iI ((m : Int)))), (5, .int (iI ((u : Int) - (t : Int) / 28))), (4, .int (iI ((t : Int) % 28))), (3, .int (iI ((t : Int) / 28))), (0, .ref (w.1 3 i)), (1, .ref (w.1 3 o)), (2, .int (iI ((t : Int))))]) (Nat.le_of_ble_eq_true rfl) rfl (atL dAX5_shiftDown_0 33 rfl) ?_
      refine v_aload_n hX 5 rfl (atL dAX5_shiftDown_0 34 rfl) ?_
      refine gf_X5_9 hX hi (atL dAX5_shiftDown_0 35 rfl) ?_
      refine v_iload hX 1 rfl (atL dAX5_shiftDown_0 36 rfl) ?_
      refine v_lload hX 0 rfl (atL dAX5_shiftDown_0 37 rfl) ?_
      refine v_iload hX 3 rfl (atL dAX5_shiftDown_0 38 rfl) ?_
      refine v_lshr hX (r := jI (((M / 2 ^ (t % 28) : Nat) : Int))) (by rw [show (t : Int) % 28 = ((t % 28 : Nat) : Int) by omega, jI_shr ⟨by omega, by omega⟩ (t % 28) (by omega), ← Int.natCast_ediv]) (atL dAX5_shiftDown_0 39 rfl) ?_
      refine v_ldc2 hX (r := 268435455) wd_413 (by decide +kernel) (atL dAX5_shiftDown_0 40 rfl) ?_
      refine v_land hX (r := jI ((((M / 2 ^ (t % 28) : Nat) : Int)) % 268435456)) (jI_mask _ 28 (by decide)) (atL dAX5_shiftDown_0 41 rfl) ?_
      rw [show ((M / 2 ^ (t % 28) : Nat) : Int) % 268435456 = (dgt (v / 2 ^ t) m : Int) by rw [hsd]; rfl]
      have hdd := dgt_lt (v / 2 ^ t) m
      refine v_last hX (c := 3) m hi2 (by decide) (fun _ _ => rfl) rfl (by omega) (by decide) (atL dAX5_shiftDown_0 42 rfl) ?_
      refine v_iinc hX (lv' := [(6, .int (iI (((m : Int)) + 1))), (7, .long (jI ((M : Int)))), (5, .int (iI ((u : Int) - (t : Int) / 28))), (4, .int (iI ((t : Int) % 28))), (3, .int (iI ((t : Int) / 28))), (0, .ref (w.1 3 i)), (1, .ref (w.1 3 o)), (2, .int (iI ((t : Int))))]) 1 rfl (iI_add _ _) (Nat.le_of_ble_eq_true rfl) rfl (atL dAX5_shiftDown_0 43 rfl) ?_
      refine v_goto hX (tgt := 22) (atL dAX5_shiftDown_0 44 rfl) (by decide) ?_
      refine v_sub (lv' := [(6, .int (iI (((m : Int)) + 1))), (5, .int (iI ((u : Int) - (t : Int) / 28))), (4, .int (iI ((t : Int) % 28))), (3, .int (iI ((t : Int) / 28))), (0, .ref (w.1 3 i)), (1, .ref (w.1 3 o)), (2, .int (iI ((t : Int))))]) [0, 2, 3, 4, 5, 6, 7] rfl ?_
      refine ih (m + 1) _ (by omega) (hds.su ⟨by omega, by omega⟩) (hfr.tr' (Fr.su (by simp))) ?_
      have e := vB_suS (σ := s) (i := i) (m := m) (v := (dgt (v / 2 ^ t) m : Int)) (by omega)
      have e2 := dgt_suc (v / 2 ^ t) m
      omega
  refine v_iload_n hX 2 rfl (atL dAX5_shiftDown_0 0 rfl) ?_
  refine v_bipush hX (by decide +kernel) (atL dAX5_shiftDown_0 1 rfl) ?_
  refine v_idiv hX (fun e0 => absurd ((iI_eq (b := 0) ⟨by omega, by omega⟩ ⟨by omega, by omega⟩).mp e0) (by omega)) (iI_div (by omega) (by omega) (by omega) (by omega)) (atL dAX5_shiftDown_0 2 rfl) ?_
  refine v_istore_n hX (i := 3) rfl (lv' := [(3, .int (iI (((t : Int)) / 28))), (0, .ref (w.1 3 i)), (1, .ref (w.1 3 o)), (2, .int (iI ((t : Int))))]) (Nat.le_of_ble_eq_true rfl) rfl (atL dAX5_shiftDown_0 3 rfl) ?_
  refine v_iload_n hX 3 rfl (atL dAX5_shiftDown_0 4 rfl) ?_
  refine v_bipush hX (by decide +kernel) (atL dAX5_shiftDown_0 5 rfl) ?_
  refine v_irem hX (fun e0 => absurd ((iI_eq (b := 0) ⟨by omega, by omega⟩ ⟨by omega, by omega⟩).mp e0) (by omega)) (iI_rem (by omega) (by omega) (by omega) (by omega)) (atL dAX5_shiftDown_0 6 rfl) ?_
  refine v_istore hX (lv' := [(4, .int (iI (((t : Int)) % 28))), (3, .int (iI (((t : Int)) / 28))), (0, .ref (w.1 3 i)), (1, .ref (w.1 3 o)), (2, .int (iI ((t : Int))))]) (Nat.le_of_ble_eq_true rfl) rfl (atL dAX5_shiftDown_0 7 rfl) ?_
  refine v_aload_n hX 3 rfl (atL dAX5_shiftDown_0 8 rfl) ?_
  refine gf_X5_13 hX (v := (u : Int)) (hu) ho (atL dAX5_shiftDown_0 9 rfl) ?_
  refine v_iload_n hX 1 rfl (atL dAX5_shiftDown_0 10 rfl) ?_
  refine v_isub hX (iI_sub _ _) (atL dAX5_shiftDown_0 11 rfl) ?_
  refine v_istore hX (lv' := [(5, .int (iI (((u : Int)) - (((t : Int)) / 28)))), (4, .int (iI (((t : Int)) % 28))), (3, .int (iI (((t : Int)) / 28))), (0, .ref (w.1 3 i)), (1, .ref (w.1 3 o)), (2, .int (iI ((t : Int))))]) (Nat.le_of_ble_eq_true rfl) rfl (atL dAX5_shiftDown_0 12 rfl) ?_
  refine v_iconst hX (atL dAX5_shiftDown_0 13 rfl) ?_
  refine v_istore hX (lv' := [(6, .int (iI (0))), (5, .int (iI (((u : Int)) - (((t : Int)) / 28)))), (4, .int (iI (((t : Int)) % 28))), (3, .int (iI (((t : Int)) / 28))), (0, .ref (w.1 3 i)), (1, .ref (w.1 3 o)), (2, .int (iI ((t : Int))))]) (Nat.le_of_ble_eq_true rfl) rfl (atL dAX5_shiftDown_0 14 rfl) ?_
  exact loop (u - t / 28) 0 σ (by omega) hdi Fr.rf rfl
