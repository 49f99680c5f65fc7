set_option maxHeartbeats 1000000 in
set_option maxRecDepth 100000 in
theorem c_X5_read (l : Launch) (w : Wl) (σ : St) (i : Nat) (hi : w.2 3 i) (hdi : WDg σ i) (r : Nat) (hr : w.2 1 r) (ho : okR σ r) (hr7 : (row σ r).length ≤ 260) : Cn l yX5_read cX5_read 7 none 1 22 wN [.ref (w.1 3 i), .ref (w.1 1 r)] w σ (fun _ σ' => WN σ' i (rv (row σ r)) ∧ Fr [(2, i), (3, i)] σ σ') := by
  refine Cn.of (own := RX5) (lv := [(0, .ref (w.1 3 i)), (1, .ref (w.1 1 r))]) (by decide +kernel) rfl (Nat.le_of_ble_eq_true rfl) rfl (fun X hX hxl hR hcl hret => ?_)
  subst hxl
  have hi2 : w.2 4 i := hcl 3 i hi (4, i) (by simp [mn, tp])
  have hrl := ho.len
  have loop : ∀ (n cn hb h : Nat) (s : St), n ≤ (row σ r).length → 8 * ((row σ r).length - n) = 28 * cn + hb → hb < 28 → h < 2 ^ hb → WDg s i → Fr [(2, i), (3, i)] σ s → vB 268435456 (fW s i) cn + h * 268435456 ^ cn = rv ((row σ r).drop n) → V X (0, 0) w 16 [(6, .int (iI ((n : Int) - 1))), (5, .int (iI ((cn : Int)))), (4, .int (iI ((hb : Int)))), (2, .long (jI ((h : Int)))), (0, .ref (w.1 3 i)), (1, .ref (w.1 1 r))] s [] := by
    intro n
    induction n with
    | zero =>
      intro cn hb h s hn h8 hb2 hh hds hfr hval
      have hh28 : 2 ^ hb ≤ 268435456 := Nat.pow_le_pow_right (n := 2) (by omega) (show hb ≤ 28 by omega)
      refine v_iload hX 0 rfl (atL dAX5_read_0 11 rfl) ?_
      refine v_if_lt hX ⟨by omega, by omega⟩ (tgt := 80) (atL dAX5_read_0 12 rfl) (by decide) (fun h18 => ?_) (fun h18 => absurd h18 (by omega))
      refine v_aload_n hX 4 rfl (atL dAX5_read_0 44 rfl) ?_
      refine gf_X5_9 hX hi (atL dAX5_read_0 45 rfl) ?_
      refine v_iload hX 1 rfl (atL dAX5_read_0 46 rfl) ?_
      refine v_lload_n hX 3 rfl (atL dAX5_read_0 47 rfl) ?_
      refine v_last hX (c := 3) cn hi2 (by decide) (fun _ _ => rfl) rfl (by omega) (by decide) (atL dAX5_read_0 48 rfl) ?_
      refine v_aload_n hX 4 rfl (atL dAX5_read_0 49 rfl) ?_
      refine v_iload hX 1 rfl (atL dAX5_read_0 50 rfl) ?_
      refine v_iconst hX (atL dAX5_read_0 51 rfl) ?_
      refine v_iadd hX (iI_add _ _) (atL dAX5_read_0 52 rfl) ?_
      refine v_callV hX (As := [.int (iI (((cn : Int)) + 1))]) (rest := []) (c_X5_trim (xl X) w (su s 3 i cn ((h : Int))) i (cn + 1) hi (hds.su ⟨by omega, by omega⟩) (by omega)) lk_X5_29 hi (fun _ => rfl) rfl rfl rfl (by rw [hR]; exact ⟨Nat.le_of_ble_eq_true rfl, Nat.le_of_ble_eq_true rfl⟩) ⟨Nat.zero_le _, Nat.zero_le _⟩ rfl (Nat.le_of_ble_eq_true rfl) (atL dAX5_read_0 53 rfl) (fun _ s1 h1 => ?_)
      obtain ⟨t, h1a, rfl, h1b, h1c⟩ := h1
      show V X _ w _ _ (su (su s 3 i cn ((h : Int))) 2 i 0 ((t : Int))) []
      exact v_vret hX (atL dAX5_read_0 54 rfl) (hret () _ ⟨trim_nm (hds.su ⟨by omega, by omega⟩) (by omega) h1a h1b h1c (by rw [vB_suN, hval, List.drop_zero]), (hfr.tr' (Fr.su (by simp))).tr' (Fr.su (by simp))⟩)
    | succ n ih =>
      intro cn hb h s hn h8 hb2 hh hds hfr hval
      have hrow : row s r = row σ r := row_fr hfr (by simp) (by simp)
      have hok : okR s r := okR_fr hfr (by simp) (by simp) ho
      have hst := read_step (n := n) (by omega) h8 hval
      have hbx := ho.by.get n
      have hlt := held_lt hh hbx
      have hp36 : 2 ^ (hb + 8) ≤ 68719476736 := Nat.pow_le_pow_right (n := 2) (by omega) (show hb + 8 ≤ 36 by omega)
      refine v_iload hX 0 rfl (atL dAX5_read_0 11 rfl) ?_
      refine v_if_lt hX ⟨by omega, by omega⟩ (tgt := 80) (atL dAX5_read_0 12 rfl) (by decide) (fun h18 => absurd h18 (by omega)) (fun h18 => ?_)
      refine v_lload_n hX 3 rfl (atL dAX5_read_0 13 rfl) ?_
      refine v_aload_n hX 5 rfl (atL dAX5_read_0 14 rfl) ?_
      refine v_iload hX 0 rfl (atL dAX5_read_0 15 rfl) ?_
      refine v_callV hX (As := [.int (iI (((n + 1 : Nat) : Int) - 1))]) (rest := [.long (jI ((h : Int)))]) (c_X4_at (xl X) w s r hr hok (((n + 1 : Nat) : Int) - 1) ⟨by omega, by omega⟩) lk_X5_38 hr (fun _ => rfl) rfl rfl rfl (by rw [hR]; exact ⟨Nat.le_of_ble_eq_true rfl, Nat.le_of_ble_eq_true rfl⟩) ⟨Nat.zero_le _, Nat.zero_le _⟩ rfl (Nat.le_of_ble_eq_true rfl) (atL dAX5_read_0 16 rfl) (fun ra sra hra => ?_)
      obtain ⟨hraa, hsra⟩ := hra
      rw [hsra]
      rw [if_pos (by omega), hrow, show (((n + 1 : Nat) : Int) - 1).toNat = n by omega] at hraa
      subst hraa
      show V X _ w _ _ s [.int (iI (((row σ r).getD n 0 : Nat))), .long (jI ((h : Int)))]
      refine v_i2l hX (iI_i2l ⟨by omega, by omega⟩) (atL dAX5_read_0 17 rfl) ?_
      refine v_iload hX 2 rfl (atL dAX5_read_0 18 rfl) ?_
      refine v_lshl hX (r := jI ((((row σ r).getD n 0 * 2 ^ hb : Nat) : Int))) (by rw [jI_shl _ hb (by omega), ← Int.natCast_mul]) (atL dAX5_read_0 19 rfl) ?_
      refine v_lor hX (r := jI (((h + (row σ r).getD n 0 * 2 ^ hb : Nat) : Int))) (jI_or2 (k := hb) hh (Nat.dvd_mul_left _ _) (by omega)) (atL dAX5_read_0 20 rfl) ?_
      obtain ⟨M, hM⟩ : ∃ M, h + (row σ r).getD n 0 * 2 ^ hb = M := ⟨_, rfl⟩
      rw [hM] at hst hlt ⊢
      refine v_lstore_n hX (i := 2) rfl (lv' := [(2, .long (jI ((M : Int)))), (6, .int (iI (((n + 1 : Nat) : Int) - 1))), (5, .int (iI ((cn : Int)))), (4, .int (iI ((hb : Int)))), (0, .ref (w.1 3 i)), (1, .ref (w.1 1 r))]) (Nat.le_of_ble_eq_true rfl) rfl (atL dAX5_read_0 21 rfl) ?_
      refine v_iinc hX (lv' := [(4, .int (iI (((hb : Int)) + 8))), (2, .long (jI ((M : Int)))), (6, .int (iI (((n + 1 : Nat) : Int) - 1))), (5, .int (iI ((cn : Int)))), (0, .ref (w.1 3 i)), (1, .ref (w.1 1 r))]) 3 rfl (iI_add _ _) (Nat.le_of_ble_eq_true rfl) rfl (atL dAX5_read_0 22 rfl) ?_
      refine v_iload hX 0 rfl (atL dAX5_read_0 23 rfl) ?_
      refine v_bipush hX (by decide +kernel) (atL dAX5_read_0 24 rfl) ?_
      refine v_icmp_lt hX ⟨by omega, by omega⟩ ⟨by omega, by omega⟩ (tgt := 74) (atL dAX5_read_0 25 rfl) (by decide) (fun h41 => ?_) (fun h41 => ?_)
      · refine v_iinc hX (lv' := [(6, .int (iI ((((n + 1 : Nat) : Int) - 1) + (-1)))), (4, .int (iI (((hb : Int)) + 8))), (2, .long (jI ((M : Int)))), (5, .int (iI ((cn : Int)))), (0, .ref (w.1 3 i)), (1, .ref (w.1 1 r))]) 2 rfl (iI_add _ _) (Nat.le_of_ble_eq_true rfl) rfl (atL dAX5_read_0 42 rfl) ?_
        refine v_goto hX (tgt := 16) (atL dAX5_read_0 43 rfl) (by decide) ?_
        refine v_sub (lv' := [(6, .int (iI ((((n + 1 : Nat) : Int) - 1) + (-1)))), (5, .int (iI ((cn : Int)))), (4, .int (iI (((hb : Int)) + 8))), (2, .long (jI ((M : Int)))), (0, .ref (w.1 3 i)), (1, .ref (w.1 1 r))]) [0, 3, 1, 2, 4, 5] rfl ?_
        rw [show ((n + 1 : Nat) : Int) - 1 + (-1) = (n : Int) - 1 by omega, show (hb : Int) + 8 = ((hb + 8 : Nat) : Int) by omega]
        exact ih cn (hb + 8) M s (by omega) (by omega) (by omega) hlt hds hfr hst
      · refine v_iload hX 3 rfl (atL dAX5_read_0 26 rfl) ?_
        refine v_bipush hX (by decide +kernel) (atL dAX5_read_0 27 rfl) ?_
        refine v_icmp_ge hX ⟨by omega, by omega⟩ ⟨by omega, by omega⟩ (tgt := 74) (atL dAX5_read_0 28 rfl) (by decide) (fun h48 => absurd h48 (by omega)) (fun h48 => ?_)
        refine v_aload_n hX 4 rfl (atL dAX5_read_0 29 rfl) ?_
        refine gf_X5_9 hX hi (atL dAX5_read_0 30 rfl) ?_
        refine v_iload hX 3 rfl (atL dAX5_read_0 31 rfl) ?_
        refine v_lload_n hX 1 rfl (atL dAX5_read_0 32 rfl) ?_
        refine v_ldc2 hX (r := 268435455) wd_413 (by decide +kernel) (atL dAX5_read_0 33 rfl) ?_
        refine v_land hX (r := jI (((M : Int)) % 268435456)) (jI_mask _ 28 (by decide)) (atL dAX5_read_0 34 rfl) ?_
        refine v_last hX (c := 3) cn hi2 (by decide) (fun _ _ => rfl) rfl (by omega) (by decide) (atL dAX5_read_0 35 rfl) ?_
        refine v_iinc hX (lv' := [(5, .int (iI (((cn : Int)) + 1))), (4, .int (iI (((hb : Int)) + 8))), (2, .long (jI ((M : Int)))), (6, .int (iI (((n + 1 : Nat) : Int) - 1))), (0, .ref (w.1 3 i)), (1, .ref (w.1 1 r))]) 3 rfl (iI_add _ _) (Nat.le_of_ble_eq_true rfl) rfl (atL dAX5_read_0 36 rfl) ?_
        refine v_lload_n hX 2 rfl (atL dAX5_read_0 37 rfl) ?_
        refine v_bipush hX (by decide +kernel) (atL dAX5_read_0 38 rfl) ?_
        refine v_lshr hX (r := jI (((M : Int)) / 268435456)) (jI_shr ⟨by omega, by omega⟩ 28 (by decide)) (atL dAX5_read_0 39 rfl) ?_
        refine v_lstore_n hX (i := 2) rfl (lv' := [(2, .long (jI (((M : Int)) / 268435456))), (5, .int (iI (((cn : Int)) + 1))), (4, .int (iI (((hb : Int)) + 8))), (6, .int (iI (((n + 1 : Nat) : Int) - 1))), (0, .ref (w.1 3 i)), (1, .ref (w.1 1 r))]) (Nat.le_of_ble_eq_true rfl) rfl (atL dAX5_read_0 40 rfl) ?_
        refine v_iinc hX (lv' := [(4, .int (iI ((((hb : Int)) + 8) + (-28)))), (2, .long (jI (((M : Int)) / 268435456))), (5, .int (iI (((cn : Int)) + 1))), (6, .int (iI (((n + 1 : Nat) : Int) - 1))), (0, .ref (w.1 3 i)), (1, .ref (w.1 1 r))]) 2 rfl (iI_add _ _) (Nat.le_of_ble_eq_true rfl) rfl (atL dAX5_read_0 41 rfl) ?_
        refine v_iinc hX (lv' := [(6, .int (iI ((((n + 1 : Nat) : Int) - 1) + (-1)))), (4, .int (iI ((((hb : Int)) + 8) + (-28)))), (2, .long (jI (((M : Int)) / 268435456))), (5, .int (iI (((cn : Int)) + 1))), (0, .ref (w.1 3 i)), (1, .ref (w.1 1 r))]) 3 rfl (iI_add _ _) (Nat.le_of_ble_eq_true rfl) rfl (atL dAX5_read_0 42 rfl) ?_
        refine v_goto hX (tgt := 16) (atL dAX5_read_0 43 rfl) (by decide) ?_
        refine v_sub (lv' := [(6, .int (iI ((((n + 1 : Nat) : Int) - 1) + (-1)))), (5, .int (iI (((cn : Int)) + 1))), (4, .int (iI ((((hb : Int)) + 8) + (-28)))), (2, .long (jI (((M : Int)) / 268435456))), (0, .ref (w.1 3 i)), (1, .ref (w.1 1 r))]) [0, 3, 1, 2, 4, 5] rfl ?_
        rw [show ((n + 1 : Nat) : Int) - 1 + (-1) = (n : Int) - 1 by omega, show (M : Int) / 268435456 = ((M / 268435456 : Nat) : Int) by omega, show (cn : Int) + 1 = ((cn + 1 : Nat) : Int) by omega, show (hb : Int) + 8 + (-28) = ((hb + 8 - 28 : Nat) : Int) by omega, show (M : Int) % 268435456 = ((M % 268435456 : Nat) : Int) by omega]
        refine ih (cn + 1) (hb + 8 - 28) (M / 268435456) _ (by omega) (by omega) (by omega) (Nat.div_lt_of_lt_mul (by rw [show 268435456 * 2 ^ (hb + 8 - 28) = 2 ^ (hb + 8) by rw [show hb + 8 = 28 + (hb + 8 - 28) by omega, Nat.pow_add, show 28 + (hb + 8 - 28) - 28 = hb + 8 - 28 by omega]]; exact hlt)) (hds.su ⟨by omega, by omega⟩) (hfr.tr' (Fr.su (by simp))) ?_
        rw [vB_suN, Nat.pow_succ, flush_step]
        exact hst
  refine v_lconst hX (atL dAX5_read_0 0 rfl) ?_
  show V X _ w _ _ _ (.long (jI (0)) :: _)
  refine v_lstore_n hX (i := 2) rfl (lv' := [(2, .long (jI (0))), (0, .ref (w.1 3 i)), (1, .ref (w.1 1 r))]) (Nat.le_of_ble_eq_true rfl) rfl (atL dAX5_read_0 1 rfl) ?_
  refine v_iconst hX (atL dAX5_read_0 2 rfl) ?_
  refine v_istore hX (lv' := [(4, .int (iI (0))), (2, .long (jI (0))), (0, .ref (w.1 3 i)), (1, .ref (w.1 1 r))]) (Nat.le_of_ble_eq_true rfl) rfl (atL dAX5_read_0 3 rfl) ?_
  refine v_iconst hX (atL dAX5_read_0 4 rfl) ?_
  refine v_istore hX (lv' := [(5, .int (iI (0))), (4, .int (iI (0))), (2, .long (jI (0))), (0, .ref (w.1 3 i)), (1, .ref (w.1 1 r))]) (Nat.le_of_ble_eq_true rfl) rfl (atL dAX5_read_0 5 rfl) ?_
  refine v_aload_n hX 4 rfl (atL dAX5_read_0 6 rfl) ?_
  refine gf_X5_33 hX (v := ((row σ r).length : Int)) (hrl) hr (atL dAX5_read_0 7 rfl) ?_
  refine v_iconst hX (atL dAX5_read_0 8 rfl) ?_
  refine v_isub hX (iI_sub _ _) (atL dAX5_read_0 9 rfl) ?_
  refine v_istore hX (lv' := [(6, .int (iI ((((row σ r).length : Int)) - 1))), (5, .int (iI (0))), (4, .int (iI (0))), (2, .long (jI (0))), (0, .ref (w.1 3 i)), (1, .ref (w.1 1 r))]) (Nat.le_of_ble_eq_true rfl) rfl (atL dAX5_read_0 10 rfl) ?_
  exact loop (row σ r).length 0 0 0 σ (Nat.le_refl _) (by omega) (by omega) (by decide) hdi Fr.rf (by rw [drop_all (Nat.le_refl _)]; rfl)
