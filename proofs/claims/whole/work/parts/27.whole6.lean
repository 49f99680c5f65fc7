set_option maxHeartbeats 1000000 in
set_option maxRecDepth 100000 in
theorem c_X5_restBySmall (l : Launch) (w : Wl) (σ : St) (i v : Nat) (hi : w.2 3 i) (hN : WN σ i v) (q : Nat) (hq0 : 0 < q) (hq : q < 268435456) : Cn l yX5_restBySmall cX5_restBySmall 5 (Option.some Jvm.ClassFile.FieldType.long) 1 21 wJ [.ref (w.1 3 i), .int (iI ((q : Int)))] w σ (fun a σ' => a = ((v % q : Nat) : Int) ∧ σ' = σ) := by
  refine Cn.of (own := RX5) (lv := [(0, .ref (w.1 3 i)), (1, .int (iI ((q : Int))))]) (by decide +kernel) rfl (Nat.le_of_ble_eq_true rfl) rfl (fun X hX hxl hR hcl hret => ?_)
  subst hxl
  have hi2 : w.2 4 i := hcl 3 i hi (4, i) (by simp [mn, tp])
  obtain ⟨u, hu, hu8, hd, ht, hv⟩ := hN
  have hvu := used_lt_pow hd hv (Nat.le_refl u)
  have loop : ∀ (n ρ : Nat), n ≤ u → ρ < q → ρ = v / 268435456 ^ n % q → V X (0, 0) w 10 [(4, .int (iI ((n : Int) - 1))), (2, .long (jI ((ρ : Int)))), (0, .ref (w.1 3 i)), (1, .int (iI ((q : Int))))] σ [] := by
    intro n
    induction n with
    | zero =>
      intro ρ hn hq hρ
      refine v_iload hX 0 rfl (atL dAX5_restBySmall_0 7 rfl) ?_
      refine v_if_lt hX ⟨by omega, by omega⟩ (tgt := 40) (atL dAX5_restBySmall_0 8 rfl) (by decide) (fun h12 => ?_) (fun h12 => absurd h12 (by omega))
      refine v_lload_n hX 1 rfl (atL dAX5_restBySmall_0 24 rfl) ?_
      exact v_lret hX (atL dAX5_restBySmall_0 25 rfl) (hret _ _ ⟨by rw [hρ, Nat.pow_zero, Nat.div_one], rfl⟩)
    | succ n ih =>
      intro ρ hn hq hρ
      refine v_iload hX 0 rfl (atL dAX5_restBySmall_0 7 rfl) ?_
      refine v_if_lt hX ⟨by omega, by omega⟩ (tgt := 40) (atL dAX5_restBySmall_0 8 rfl) (by decide) (fun h12 => absurd h12 (by omega)) (fun h12 => ?_)
      refine v_iload_n hX 3 rfl (atL dAX5_restBySmall_0 9 rfl) ?_
      refine v_if_le hX ⟨by omega, by omega⟩ (tgt := 40) (atL dAX5_restBySmall_0 10 rfl) (by decide) (fun h16 => absurd h16 (by omega)) (fun h16 => ?_)
      refine v_lload_n hX 1 rfl (atL dAX5_restBySmall_0 11 rfl) ?_
      refine v_bipush hX (by decide +kernel) (atL dAX5_restBySmall_0 12 rfl) ?_
      refine v_lshl hX (r := jI (((ρ : Int)) * 268435456)) (jI_shl _ 28 (by decide)) (atL dAX5_restBySmall_0 13 rfl) ?_
      refine v_aload_n hX 2 rfl (atL dAX5_restBySmall_0 14 rfl) ?_
      refine v_iload hX 0 rfl (atL dAX5_restBySmall_0 15 rfl) ?_
      refine v_callV hX (As := [.int (iI (((n + 1 : Nat) : Int) - 1))]) (rest := [.long (jI (((ρ : Int)) * 268435456))]) (c_X5_limbAt (xl X) w σ i u hi hu hu8 (((n + 1 : Nat) : Int) - 1) ⟨by omega, by omega⟩) lk_X5_17 hi (fun _ => rfl) rfl rfl rfl (by rw [hR]; exact ⟨Nat.le_of_ble_eq_true rfl, Nat.le_of_ble_eq_true rfl⟩) ⟨Nat.zero_le _, Nat.zero_le _⟩ rfl (Nat.le_of_ble_eq_true rfl) (atL dAX5_restBySmall_0 16 rfl) (fun ra sra hra => ?_)
      obtain ⟨hraa, hsra⟩ := hra
      rw [hsra]
      have hrab : ra = (dgt v n : Int) := by rw [← dgt_WN hd hv n, hraa, show (((n + 1 : Nat) : Int) - 1).toNat = n by omega]; split <;> split <;> first | rfl | omega
      subst hrab
      have hrac := dgt_lt v n
      show V X _ w _ _ σ [.long (jI ((dgt v n : Int))), .long (jI (((ρ : Int)) * 268435456))]
      refine v_lor hX (r := jI (((ρ * 268435456 + dgt v n : Nat) : Int))) (by rw [show (ρ : Int) * 268435456 = ((ρ * 268435456 : Nat) : Int) by omega]; exact jI_or (k := 28) hrac ⟨ρ, Nat.mul_comm _ _⟩ (by omega)) (atL dAX5_restBySmall_0 17 rfl) ?_
      refine v_iload_n hX 3 rfl (atL dAX5_restBySmall_0 18 rfl) ?_
      refine v_i2l hX (iI_i2l ⟨by omega, by omega⟩) (atL dAX5_restBySmall_0 19 rfl) ?_
      refine v_lrem hX (fun e0 => absurd ((jI_eq (b := 0) ⟨by omega, by omega⟩ ⟨by omega, by omega⟩).mp e0) (by omega)) (jI_rem (by omega) (by omega) (by omega) (by omega)) (atL dAX5_restBySmall_0 20 rfl) ?_
      refine v_lstore_n hX (i := 2) rfl (lv' := [(2, .long (jI ((((ρ * 268435456 + dgt v n : Nat) : Int)) % ((q : Int))))), (4, .int (iI (((n + 1 : Nat) : Int) - 1))), (0, .ref (w.1 3 i)), (1, .int (iI ((q : Int))))]) (Nat.le_of_ble_eq_true rfl) rfl (atL dAX5_restBySmall_0 21 rfl) ?_
      refine v_iinc hX (lv' := [(4, .int (iI ((((n + 1 : Nat) : Int) - 1) + (-1)))), (2, .long (jI ((((ρ * 268435456 + dgt v n : Nat) : Int)) % ((q : Int))))), (0, .ref (w.1 3 i)), (1, .int (iI ((q : Int))))]) 1 rfl (iI_add _ _) (Nat.le_of_ble_eq_true rfl) rfl (atL dAX5_restBySmall_0 22 rfl) ?_
      refine v_goto hX (tgt := 10) (atL dAX5_restBySmall_0 23 rfl) (by decide) ?_
      refine v_sub (lv' := [(4, .int (iI ((((n + 1 : Nat) : Int) - 1) + (-1)))), (2, .long (jI ((((ρ * 268435456 + dgt v n : Nat) : Int)) % ((q : Int))))), (0, .ref (w.1 3 i)), (1, .int (iI ((q : Int))))]) [0, 1, 2, 3] rfl ?_
      rw [show ((n + 1 : Nat) : Int) - 1 + (-1) = (n : Int) - 1 by omega, ← Int.natCast_emod]
      refine ih _ (by omega) (Nat.mod_lt _ (by omega)) ?_
      rw [dgt_step v n, hρ, Nat.add_mod, Nat.mul_mod, Nat.mod_mod, ← Nat.mul_mod, ← Nat.add_mod]
  refine v_lconst hX (atL dAX5_restBySmall_0 0 rfl) ?_
  show V X _ w _ _ _ (.long (jI (0)) :: _)
  refine v_lstore_n hX (i := 2) rfl (lv' := [(2, .long (jI (0))), (0, .ref (w.1 3 i)), (1, .int (iI ((q : Int))))]) (Nat.le_of_ble_eq_true rfl) rfl (atL dAX5_restBySmall_0 1 rfl) ?_
  refine v_aload_n hX 1 rfl (atL dAX5_restBySmall_0 2 rfl) ?_
  refine gf_X5_13 hX (v := (u : Int)) (hu) hi (atL dAX5_restBySmall_0 3 rfl) ?_
  refine v_iconst hX (atL dAX5_restBySmall_0 4 rfl) ?_
  refine v_isub hX (iI_sub _ _) (atL dAX5_restBySmall_0 5 rfl) ?_
  refine v_istore hX (lv' := [(4, .int (iI (((u : Int)) - 1))), (2, .long (jI (0))), (0, .ref (w.1 3 i)), (1, .int (iI ((q : Int))))]) (Nat.le_of_ble_eq_true rfl) rfl (atL dAX5_restBySmall_0 6 rfl) ?_
  exact loop u 0 (Nat.le_refl u) hq0 (by rw [Nat.div_eq_of_lt hvu, Nat.zero_mod])

set_option maxHeartbeats 1000000 in
set_option maxRecDepth 100000 in
theorem c_X5_zeroBits (l : Launch) (w : Wl) (σ : St) (i v : Nat) (hi : w.2 3 i) (hN : WN σ i v) (hv0 : 0 < v) : Cn l yX5_zeroBits cX5_zeroBits 3 (Option.some Jvm.ClassFile.FieldType.int) 2 42 wI [.ref (w.1 3 i)] w σ (fun a σ' => ∃ t : Nat, a = (t : Int) ∧ v / 2 ^ t % 2 = 1 ∧ (∀ j, j < t → v / 2 ^ j % 2 = 0) ∧ σ' = σ) := by
  refine Cn.of (own := RX5) (lv := [(0, .ref (w.1 3 i))]) (by decide +kernel) rfl (Nat.le_of_ble_eq_true rfl) rfl (fun X hX hxl hR hcl hret => ?_)
  subst hxl
  have hi2 : w.2 4 i := hcl 3 i hi (4, i) (by simp [mn, tp])
  have hbl : blen v ≤ 2240 := blen_le hN.le
  have hb0 := blen_pos (show v ≠ 0 by omega)
  have htop : v / 2 ^ (blen v - 1) % 2 = 1 := by
    have h1 := blen_ge (show v ≠ 0 by omega)
    have h2 := blen_lt v
    have e : v / 2 ^ (blen v - 1) = 1 := by
      rw [Nat.div_eq_iff (Nat.two_pow_pos _)]
      rw [show blen v = (blen v - 1) + 1 by omega, Nat.pow_succ] at h2
      omega
    rw [e]
  have loop : ∀ (n m : Nat), m + n = blen v → (∀ j, j < m → v / 2 ^ j % 2 = 0) → V X (0, 0) w 7 [(2, .int (iI ((m : Int)))), (1, .int (iI ((blen v : Nat)))), (0, .ref (w.1 3 i))] σ [] := by
    intro n
    induction n with
    | zero =>
      intro m hm hz
      exact absurd (hz (blen v - 1) (by omega)) (by omega)
    | succ n ih =>
      intro m hm hz
      refine v_iload_n hX 0 rfl (atL dAX5_zeroBits_0 5 rfl) ?_
      refine v_iload_n hX 1 rfl (atL dAX5_zeroBits_0 6 rfl) ?_
      refine v_icmp_ge hX ⟨by omega, by omega⟩ ⟨by omega, by omega⟩ (tgt := 28) (atL dAX5_zeroBits_0 7 rfl) (by decide) (fun h9 => absurd h9 (by omega)) (fun h9 => ?_)
      refine v_aload_n hX 2 rfl (atL dAX5_zeroBits_0 8 rfl) ?_
      refine v_iload_n hX 0 rfl (atL dAX5_zeroBits_0 9 rfl) ?_
      refine v_callV hX (As := [.int (iI ((m : Int)))]) (rest := []) (c_X5_hasBit (xl X) w σ i v hi hN m (by omega)) lk_X5_51 hi (fun _ => rfl) rfl rfl rfl (by rw [hR]; exact ⟨Nat.le_of_ble_eq_true rfl, Nat.le_of_ble_eq_true rfl⟩) ⟨Nat.zero_le _, Nat.zero_le _⟩ rfl (Nat.le_of_ble_eq_true rfl) (atL dAX5_zeroBits_0 10 rfl) (fun ra sra hra => ?_)
      obtain ⟨hraa, hsra⟩ := hra
      rw [hsra]
      show V X _ w _ _ σ [.int (iI (ra))]
      refine v_if_eq hX ⟨by split at hraa <;> omega, by split at hraa <;> omega⟩ (tgt := 22) (atL dAX5_zeroBits_0 11 rfl) (by decide) (fun h17 => ?_) (fun h17 => ?_)
      · refine v_iinc hX (lv' := [(2, .int (iI (((m : Int)) + 1))), (1, .int (iI ((blen v : Nat)))), (0, .ref (w.1 3 i))]) 0 rfl (iI_add _ _) (Nat.le_of_ble_eq_true rfl) rfl (atL dAX5_zeroBits_0 14 rfl) ?_
        refine v_goto hX (tgt := 7) (atL dAX5_zeroBits_0 15 rfl) (by decide) ?_
        refine v_sub (lv' := [(2, .int (iI (((m : Int)) + 1))), (1, .int (iI ((blen v : Nat)))), (0, .ref (w.1 3 i))]) [0, 1, 2] rfl ?_
        exact ih (m + 1) (by omega) (fun j hj => by rcases Nat.lt_or_ge j m with h | h; exact hz j h; rw [show j = m by omega]; split at hraa <;> omega)
      · refine v_iload_n hX 0 rfl (atL dAX5_zeroBits_0 12 rfl) ?_
        exact v_iret hX (atL dAX5_zeroBits_0 13 rfl) (hret _ _ ⟨m, rfl, by split at hraa <;> omega, hz, rfl⟩)
  refine v_aload_n hX 0 rfl (atL dAX5_zeroBits_0 0 rfl) ?_
  refine v_callV hX (As := []) (rest := []) (c_X5_bitLength (xl X) w σ i v hi hN) lk_X5_25 hi (fun _ => rfl) rfl rfl rfl (by rw [hR]; exact ⟨Nat.le_of_ble_eq_true rfl, Nat.le_of_ble_eq_true rfl⟩) ⟨Nat.zero_le _, Nat.zero_le _⟩ rfl (Nat.le_of_ble_eq_true rfl) (atL dAX5_zeroBits_0 1 rfl) (fun r1 s1 h1 => ?_)
  obtain ⟨hr1, hs1⟩ := h1
  rw [hs1]
  subst hr1
  show V X _ w _ _ σ [.int (iI ((blen v : Nat)))]
  refine v_istore_n hX (i := 1) rfl (lv' := [(1, .int (iI ((blen v : Nat)))), (0, .ref (w.1 3 i))]) (Nat.le_of_ble_eq_true rfl) rfl (atL dAX5_zeroBits_0 2 rfl) ?_
  refine v_iconst hX (atL dAX5_zeroBits_0 3 rfl) ?_
  refine v_istore_n hX (i := 2) rfl (lv' := [(2, .int (iI (0))), (1, .int (iI ((blen v : Nat)))), (0, .ref (w.1 3 i))]) (Nat.le_of_ble_eq_true rfl) rfl (atL dAX5_zeroBits_0 4 rfl) ?_
  exact loop (blen v) 0 (by omega) (fun j hj => absurd hj (Nat.not_lt_zero j))

set_option maxHeartbeats 1000000 in
set_option maxRecDepth 100000 in
theorem c_X5_write (l : Launch) (w : Wl) (σ : St) (i v : Nat) (hi : w.2 3 i) (hN : WN σ i v) (r : Nat) (hr : w.2 1 r) (ho : okR σ r) (n : Nat) (hn : n ≤ rcap r) : Cn l yX5_write cX5_write 8 none 1 21 wN [.ref (w.1 3 i), .ref (w.1 1 r), .int (iI ((n : Int)))] w σ (fun _ σ' => σ' = sr σ r (be v n)) := by
  refine Cn.of (own := RX5) (lv := [(0, .ref (w.1 3 i)), (1, .ref (w.1 1 r)), (2, .int (iI ((n : Int))))]) (by decide +kernel) rfl (Nat.le_of_ble_eq_true rfl) rfl (fun X hX hxl hR hcl hret => ?_)
  subst hxl
  have hi2 : w.2 4 i := hcl 3 i hi (4, i) (by simp [mn, tp])
  obtain ⟨u, hu, hu8, hd, ht, hv⟩ := hN
  have hrc := rcap_le r
  have loop : ∀ (m : Nat), m ≤ n → V X (0, 0) w 9 [(3, .int (iI ((m : Int) - 1))), (0, .ref (w.1 3 i)), (1, .ref (w.1 1 r)), (2, .int (iI ((n : Int))))] (sr σ r (beP v n (n - m))) [] := by
    intro m
    induction m with
    | zero =>
      intro hm
      refine v_iload_n hX 0 rfl (atL dAX5_write_0 7 rfl) ?_
      refine v_if_lt hX ⟨by omega, by omega⟩ (tgt := 74) (atL dAX5_write_0 8 rfl) (by decide) (fun h10 => ?_) (fun h10 => absurd h10 (by omega))
      exact v_vret hX (atL dAX5_write_0 45 rfl) (hret () _ (by rw [Nat.sub_zero]; rfl))
    | succ m ih =>
      intro hm
      have h2 : (sr σ r (beP v n (n - (m + 1)))) 2 = σ 2 := sr_23 (by decide)
      have h3 : (sr σ r (beP v n (n - (m + 1)))) 3 = σ 3 := sr_23 (by decide)
      have hby := byte_of v m
      refine v_iload_n hX 0 rfl (atL dAX5_write_0 7 rfl) ?_
      refine v_if_lt hX ⟨by omega, by omega⟩ (tgt := 74) (atL dAX5_write_0 8 rfl) (by decide) (fun h10 => absurd h10 (by omega)) (fun h10 => ?_)
      refine v_bipush hX (by decide +kernel) (atL dAX5_write_0 9 rfl) ?_
      refine v_iload_n hX 0 rfl (atL dAX5_write_0 10 rfl) ?_
      refine v_imul hX (iI_mul _ _) (atL dAX5_write_0 11 rfl) ?_
      refine v_bipush hX (by decide +kernel) (atL dAX5_write_0 12 rfl) ?_
      refine v_idiv hX (fun e0 => absurd ((iI_eq (b := 0) ⟨by omega, by omega⟩ ⟨by omega, by omega⟩).mp e0) (by omega)) (iI_div (by omega) (by omega) (by omega) (by omega)) (atL dAX5_write_0 13 rfl) ?_
      refine v_istore hX (lv' := [(4, .int (iI ((8 * (((m + 1 : Nat) : Int) - 1)) / 28))), (3, .int (iI (((m + 1 : Nat) : Int) - 1))), (0, .ref (w.1 3 i)), (1, .ref (w.1 1 r)), (2, .int (iI ((n : Int))))]) (Nat.le_of_ble_eq_true rfl) rfl (atL dAX5_write_0 14 rfl) ?_
      refine v_bipush hX (by decide +kernel) (atL dAX5_write_0 15 rfl) ?_
      refine v_iload_n hX 1 rfl (atL dAX5_write_0 16 rfl) ?_
      refine v_imul hX (iI_mul _ _) (atL dAX5_write_0 17 rfl) ?_
      refine v_bipush hX (by decide +kernel) (atL dAX5_write_0 18 rfl) ?_
      refine v_irem hX (fun e0 => absurd ((iI_eq (b := 0) ⟨by omega, by omega⟩ ⟨by omega, by omega⟩).mp e0) (by omega)) (iI_rem (by omega) (by omega) (by omega) (by omega)) (atL dAX5_write_0 19 rfl) ?_
      refine v_istore hX (lv' := [(5, .int (iI ((8 * (((m + 1 : Nat) : Int) - 1)) % 28))), (4, .int (iI ((8 * (((m + 1 : Nat) : Int) - 1)) / 28))), (3, .int (iI (((m + 1 : Nat) : Int) - 1))), (0, .ref (w.1 3 i)), (1, .ref (w.1 1 r)), (2, .int (iI ((n : Int))))]) (Nat.le_of_ble_eq_true rfl) rfl (atL dAX5_write_0 20 rfl) ?_
      refine v_aload_n hX 3 rfl (atL dAX5_write_0 21 rfl) ?_
      refine v_iload hX 1 rfl (atL dAX5_write_0 22 rfl) ?_
      refine v_callV hX (As := [.int (iI ((8 * (((m + 1 : Nat) : Int) - 1)) / 28))]) (rest := []) (c_X5_limbAt (xl X) w (sr σ r (beP v n (n - (m + 1)))) i u hi (by rw [h2]; exact hu) hu8 ((8 * (((m + 1 : Nat) : Int) - 1)) / 28) ⟨by omega, by omega⟩) lk_X5_17 hi (fun _ => rfl) rfl rfl rfl (by rw [hR]; exact ⟨Nat.le_of_ble_eq_true rfl, Nat.le_of_ble_eq_true rfl⟩) ⟨Nat.zero_le _, Nat.zero_le _⟩ rfl (Nat.le_of_ble_eq_true rfl) (atL dAX5_write_0 23 rfl) (fun ra sra hra => ?_)
      obtain ⟨hraa, hsra⟩ := hra
      rw [hsra]
      have hrab : ra = (dgt v (8 * m / 28) : Int) := by rw [← dgt_WN hd hv (8 * m / 28), hraa, show ((8 * (((m + 1 : Nat) : Int) - 1)) / 28 : Int).toNat = 8 * m / 28 by omega, h3]; split <;> split <;> first | rfl | omega
      subst hrab
      have hrac := dgt_lt v (8 * m / 28)
      show V X _ w _ _ (sr σ r (beP v n (n - (m + 1)))) [.long (jI ((dgt v (8 * m / 28) : Int)))]
      refine v_iload hX 0 rfl (atL dAX5_write_0 24 rfl) ?_
      refine v_lshr hX (r := jI (((dgt v (8 * m / 28) / 2 ^ (8 * m % 28) : Nat) : Int))) (by rw [show (8 * (((m + 1 : Nat) : Int) - 1)) % 28 = ((8 * m % 28 : Nat) : Int) by omega, jI_shr ⟨by omega, by omega⟩ (8 * m % 28) (by omega), ← Int.natCast_ediv]) (atL dAX5_write_0 25 rfl) ?_
      refine v_aload_n hX 3 rfl (atL dAX5_write_0 26 rfl) ?_
      refine v_iload hX 1 rfl (atL dAX5_write_0 27 rfl) ?_
      refine v_iconst hX (atL dAX5_write_0 28 rfl) ?_
      refine v_iadd hX (iI_add _ _) (atL dAX5_write_0 29 rfl) ?_
      refine v_callV hX (As := [.int (iI (((8 * (((m + 1 : Nat) : Int) - 1)) / 28) + 1))]) (rest := [.long (jI (((dgt v (8 * m / 28) / 2 ^ (8 * m % 28) : Nat) : Int)))]) (c_X5_limbAt (xl X) w (sr σ r (beP v n (n - (m + 1)))) i u hi (by rw [h2]; exact hu) hu8 ((8 * (((m + 1 : Nat) : Int) - 1)) / 28 + 1) ⟨by omega, by omega⟩) lk_X5_17 hi (fun _ => rfl) rfl rfl rfl (by rw [hR]; exact ⟨Nat.le_of_ble_eq_true rfl, Nat.le_of_ble_eq_true rfl⟩) ⟨Nat.zero_le _, Nat.zero_le _⟩ rfl (Nat.le_of_ble_eq_true rfl) (atL dAX5_write_0 30 rfl) (fun rb srb hrb => ?_)
      obtain ⟨hrba, hsrb⟩ := hrb
      rw [hsrb]
      have hrbb : rb = (dgt v (8 * m / 28 + 1) : Int) := by rw [← dgt_WN hd hv (8 * m / 28 + 1), hrba, show ((8 * (((m + 1 : Nat) : Int) - 1)) / 28 + 1 : Int).toNat = 8 * m / 28 + 1 by omega, h3]; split <;> split <;> first | rfl | omega
      subst hrbb
      have hrbc := dgt_lt v (8 * m / 28 + 1)
      show V X _ w _ _ (sr σ r (beP v n (n - (m + 1)))) [.long (jI ((dgt v (8 * m / 28 + 1) : Int))), .long (jI (((dgt v (8 * m / 28) / 2 ^ (8 * m % 28) : Nat) : Int)))]
      refine v_bipush hX (by decide +kernel) (atL dAX5_write_0 31 rfl) ?_
      refine v_iload hX 0 rfl (atL dAX5_write_0 32 rfl) ?_
      refine v_isub hX (iI_sub _ _) (atL dAX5_write_0 33 rfl) ?_
      refine v_lshl hX (r := jI (((dgt v (8 * m / 28 + 1) * 2 ^ (28 - 8 * m % 28) : Nat) : Int))) (by rw [show 28 - (8 * (((m + 1 : Nat) : Int) - 1)) % 28 = ((28 - 8 * m % 28 : Nat) : Int) by omega, jI_shl _ (28 - 8 * m % 28) (by omega), ← Int.natCast_mul]) (atL dAX5_write_0 34 rfl) ?_
      have hq1 : dgt v (8 * m / 28) / 2 ^ (8 * m % 28) < 2 ^ (28 - 8 * m % 28) := Nat.div_lt_of_lt_mul (by rw [← Nat.pow_add, show 8 * m % 28 + (28 - 8 * m % 28) = 28 by omega]; exact hrac)
      have hq2 : 2 ^ (28 - 8 * m % 28) ≤ 2 ^ 28 := Nat.pow_le_pow_right (by omega) (by omega)
      have hq3 : dgt v (8 * m / 28 + 1) * 2 ^ (28 - 8 * m % 28) ≤ 268435456 * 2 ^ 28 := Nat.mul_le_mul (by omega) hq2
      refine v_lor hX (r := jI (((dgt v (8 * m / 28) / 2 ^ (8 * m % 28) + dgt v (8 * m / 28 + 1) * 2 ^ (28 - 8 * m % 28) : Nat) : Int))) (jI_or2 (k := 28 - 8 * m % 28) hq1 (Nat.dvd_mul_left _ _) (by omega)) (atL dAX5_write_0 35 rfl) ?_
      obtain ⟨M, hM⟩ : ∃ M, dgt v (8 * m / 28) / 2 ^ (8 * m % 28) + dgt v (8 * m / 28 + 1) * 2 ^ (28 - 8 * m % 28) = M := ⟨_, rfl⟩
      rw [hM] at hby ⊢
      refine v_lstore hX (lv' := [(6, .long (jI ((M : Int)))), (5, .int (iI ((8 * (((m + 1 : Nat) : Int) - 1)) % 28))), (4, .int (iI ((8 * (((m + 1 : Nat) : Int) - 1)) / 28))), (3, .int (iI (((m + 1 : Nat) : Int) - 1))), (0, .ref (w.1 3 i)), (1, .ref (w.1 1 r)), (2, .int (iI ((n : Int))))]) (Nat.le_of_ble_eq_true rfl) rfl (atL dAX5_write_0 36 rfl) ?_
      refine v_aload_n hX 5 rfl (atL dAX5_write_0 37 rfl) ?_
      refine v_lload hX 0 rfl (atL dAX5_write_0 38 rfl) ?_
      refine v_ldc2 hX (r := 255) wd_553 (by decide +kernel) (atL dAX5_write_0 39 rfl) ?_
      refine v_land hX (r := jI (((M : Int)) % 256)) (jI_mask _ 8 (by decide)) (atL dAX5_write_0 40 rfl) ?_
      refine v_l2i hX (jI_l2i _) (atL dAX5_write_0 41 rfl) ?_
      refine v_callV hX (As := [.int (iI (((M : Int)) % 256))]) (rest := []) (c_X4_add (xl X) w (sr σ r (beP v n (n - (m + 1)))) r hr (okR_sr' ho (by rw [beP_len]; omega) beP_by) ((M : Int) % 256) (by rw [row_sr, beP_len]; omega)) lk_X5_46 hr (fun _ => rfl) rfl rfl rfl (by rw [hR]; exact ⟨Nat.le_of_ble_eq_true rfl, Nat.le_of_ble_eq_true rfl⟩) ⟨Nat.zero_le _, Nat.zero_le _⟩ rfl (Nat.le_of_ble_eq_true rfl) (atL dAX5_write_0 42 rfl) (fun _ s9 e9 => ?_)
      subst e9
      rw [sr_app, show ((M : Int) % 256 % 256).toNat = v / 256 ^ (n - 1 - (n - (m + 1))) % 256 by rw [show n - 1 - (n - (m + 1)) = m by omega]; omega, beP_suc, show n - (m + 1) + 1 = n - m by omega]
      show V X _ w _ _ (sr σ r (beP v n (n - m))) []
      refine v_iinc hX (lv' := [(3, .int (iI ((((m + 1 : Nat) : Int) - 1) + (-1)))), (6, .long (jI ((M : Int)))), (5, .int (iI ((8 * (((m + 1 : Nat) : Int) - 1)) % 28))), (4, .int (iI ((8 * (((m + 1 : Nat) : Int) - 1)) / 28))), (0, .ref (w.1 3 i)), (1, .ref (w.1 1 r)), (2, .int (iI ((n : Int))))]) 3 rfl (iI_add _ _) (Nat.le_of_ble_eq_true rfl) rfl (atL dAX5_write_0 43 rfl) ?_
      refine v_goto hX (tgt := 9) (atL dAX5_write_0 44 rfl) (by decide) ?_
      refine v_sub (lv' := [(3, .int (iI ((((m + 1 : Nat) : Int) - 1) + (-1)))), (0, .ref (w.1 3 i)), (1, .ref (w.1 1 r)), (2, .int (iI ((n : Int))))]) [0, 4, 5, 6] rfl ?_
      rw [show ((m + 1 : Nat) : Int) - 1 + (-1) = (m : Int) - 1 by omega]
      exact ih (by omega)
  refine v_aload_n hX 1 rfl (atL dAX5_write_0 0 rfl) ?_
  refine v_iconst hX (atL dAX5_write_0 1 rfl) ?_
  refine pf_X5_33 hX hr (atL dAX5_write_0 2 rfl) ?_
  rw [sr_nil]
  refine v_iload_n hX 2 rfl (atL dAX5_write_0 3 rfl) ?_
  refine v_iconst hX (atL dAX5_write_0 4 rfl) ?_
  refine v_isub hX (iI_sub _ _) (atL dAX5_write_0 5 rfl) ?_
  refine v_istore_n hX (i := 3) rfl (lv' := [(3, .int (iI (((n : Int)) - 1))), (0, .ref (w.1 3 i)), (1, .ref (w.1 1 r)), (2, .int (iI ((n : Int))))]) (Nat.le_of_ble_eq_true rfl) rfl (atL dAX5_write_0 6 rfl) ?_
  have e : ([] : List Nat) = beP v n (n - n) := by rw [Nat.sub_self]; rfl
  rw [e]
  exact loop n (Nat.le_refl n)
