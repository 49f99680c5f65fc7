set_option maxHeartbeats 4000000 in
set_option maxRecDepth 100000 in
theorem c_X5_setDifference (l : Launch) (w : Wl) (σ : St) (i : Nat) (hi : w.2 3 i) (hdi : WDg σ i) (o v : Nat) (ho : w.2 3 o) (hM : WN σ o v) (r y : Nat) (hr : w.2 3 r) (hK : WN σ r y) (hvy : y ≤ v) : Cn l yX5_setDifference cX5_setDifference 9 none 1 22 wN [.ref (w.1 3 i), .ref (w.1 3 o), .ref (w.1 3 r)] w σ (fun _ σ' => WN σ' i (v - y) ∧ Fr [(2, i), (3, i)] σ σ') := by
  refine Cn.of (own := RX5) (lv := [(0, .ref (w.1 3 i)), (1, .ref (w.1 3 o)), (2, .ref (w.1 3 r))]) (by decide +kernel) rfl (Nat.le_of_ble_eq_true rfl) rfl (fun X hX hxl hR hcl hret => ?_)
  subst hxl
  have hi2 : w.2 4 i := hcl 3 i hi (4, i) (by simp [mn, tp])
  obtain ⟨u, hu, hu8, hd, ht, hv⟩ := hM
  obtain ⟨x, hx, hx8, he, hxt, hy⟩ := hK
  have loop : ∀ (d m : Nat) (c : Int) (s : St), m + d = u → (c = 0 ∨ c = -1) → WDg s i → Fr [(2, i), (3, i)] σ s → s 2 = σ 2 → (∀ j, m ≤ j → s 3 i j = σ 3 i j) → ((vB 268435456 (fW s i) m : Nat) : Int) + c * ((268435456 ^ m : Nat) : Int) = ((vB 268435456 (dgt v) m : Nat) : Int) - ((vB 268435456 (dgt y) m : Nat) : Int) → V X (0, 0) w 11 [(6, .int (iI ((m : Int)))), (4, .long (jI (c))), (3, .int (iI ((u : Int)))), (0, .ref (w.1 3 i)), (1, .ref (w.1 3 o)), (2, .ref (w.1 3 r))] s [] := by
    intro d
    induction d with
    | zero =>
      intro m c s hm hc hds hfr h2 hag hval
      obtain rfl : m = u := by omega
      have hfin : vB 268435456 (fW s i) m = v - y := by
        rw [dgt_all (used_lt_pow hd hv (Nat.le_refl m)), dgt_all (by have := used_lt_pow hd hv (Nat.le_refl m); omega)] at hval
        have hlt := vB_lt (b := 268435456) (f := fW s i) (n := m) (fun j _ => dg_lt hds j)
        have := no_borrow hval (by omega) (by omega) hc
        omega
      refine v_iload hX 0 rfl (atL dAX5_setDifference_0 7 rfl) ?_
      refine v_iload_n hX 2 rfl (atL dAX5_setDifference_0 8 rfl) ?_
      refine v_icmp_ge hX ⟨by omega, by omega⟩ ⟨by omega, by omega⟩ (tgt := 61) (atL dAX5_setDifference_0 9 rfl) (by decide) (fun h14 => ?_) (fun h14 => absurd h14 (by omega))
      refine v_aload_n hX 3 rfl (atL dAX5_setDifference_0 33 rfl) ?_
      refine v_iload_n hX 2 rfl (atL dAX5_setDifference_0 34 rfl) ?_
      refine v_callV hX (As := [.int (iI ((m : Int)))]) (rest := []) (c_X5_trim (xl X) w s i m hi hds (by omega)) lk_X5_29 hi (fun _ => rfl) rfl rfl rfl (by rw [hR]; exact ⟨Nat.le_of_ble_eq_true rfl, Nat.le_of_ble_eq_true rfl⟩) ⟨Nat.zero_le _, Nat.zero_le _⟩ rfl (Nat.le_of_ble_eq_true rfl) (atL dAX5_setDifference_0 35 rfl) (fun _ s1 h1 => ?_)
      obtain ⟨t, h1a, rfl, h1b, h1c⟩ := h1
      show V X _ w _ _ (su s 2 i 0 ((t : Int))) []
      exact v_vret hX (atL dAX5_setDifference_0 36 rfl) (hret () _ ⟨trim_nm hds (by omega) h1a h1b h1c hfin, hfr.tr' (Fr.su (by simp))⟩)
    | succ d ih =>
      intro m c s hm hc hds hfr h2 hag hval
      have hro : s 3 o m = σ 3 o m := by by_cases e : o = i; rw [e]; exact hag m (Nat.le_refl m); rw [hfr 3 o (by simp [e])]
      have hrr : s 3 r m = σ 3 r m := by by_cases e : r = i; rw [e]; exact hag m (Nat.le_refl m); rw [hfr 3 r (by simp [e])]
      refine v_iload hX 0 rfl (atL dAX5_setDifference_0 7 rfl) ?_
      refine v_iload_n hX 2 rfl (atL dAX5_setDifference_0 8 rfl) ?_
      refine v_icmp_ge hX ⟨by omega, by omega⟩ ⟨by omega, by omega⟩ (tgt := 61) (atL dAX5_setDifference_0 9 rfl) (by decide) (fun h14 => absurd h14 (by omega)) (fun h14 => ?_)
      refine v_aload_n hX 4 rfl (atL dAX5_setDifference_0 10 rfl) ?_
      refine v_iload hX 0 rfl (atL dAX5_setDifference_0 11 rfl) ?_
      refine v_callV hX (As := [.int (iI ((m : Int)))]) (rest := []) (c_X5_limbAt (xl X) w s o u ho (by rw [h2]; exact hu) hu8 ((m : Int)) ⟨by omega, by omega⟩) lk_X5_17 ho (fun _ => rfl) rfl rfl rfl (by rw [hR]; exact ⟨Nat.le_of_ble_eq_true rfl, Nat.le_of_ble_eq_true rfl⟩) ⟨Nat.zero_le _, Nat.zero_le _⟩ rfl (Nat.le_of_ble_eq_true rfl) (atL dAX5_setDifference_0 12 rfl) (fun ra sra hra => ?_)
      obtain ⟨hraa, hsra⟩ := hra
      rw [hsra]
      have hrab : ra = (dgt v (m) : Int) := by rw [← dgt_WN hd hv (m), hraa, show ((m : Int) : Int).toNat = m by omega, hro]; split <;> split <;> first | rfl | omega
      subst hrab
      have hrac := dgt_lt v (m)
      show V X _ w _ _ s [.long (jI ((dgt v m : Int)))]
      refine v_aload_n hX 5 rfl (atL dAX5_setDifference_0 13 rfl) ?_
      refine v_iload hX 0 rfl (atL dAX5_setDifference_0 14 rfl) ?_
      refine v_callV hX (As := [.int (iI ((m : Int)))]) (rest := [.long (jI ((dgt v m : Int)))]) (c_X5_limbAt (xl X) w s r x hr (by rw [h2]; exact hx) hx8 ((m : Int)) ⟨by omega, by omega⟩) lk_X5_17 hr (fun _ => rfl) rfl rfl rfl (by rw [hR]; exact ⟨Nat.le_of_ble_eq_true rfl, Nat.le_of_ble_eq_true rfl⟩) ⟨Nat.zero_le _, Nat.zero_le _⟩ rfl (Nat.le_of_ble_eq_true rfl) (atL dAX5_setDifference_0 15 rfl) (fun rb srb hrb => ?_)
      obtain ⟨hrba, hsrb⟩ := hrb
      rw [hsrb]
      have hrbb : rb = (dgt y (m) : Int) := by rw [← dgt_WN he hy (m), hrba, show ((m : Int) : Int).toNat = m by omega, hrr]; split <;> split <;> first | rfl | omega
      subst hrbb
      have hrbc := dgt_lt y (m)
      show V X _ w _ _ s [.long (jI ((dgt y m : Int))), .long (jI ((dgt v m : Int)))]
      refine v_lsub hX (jI_sub _ _) (atL dAX5_setDifference_0 16 rfl) ?_
      refine v_lload hX 1 rfl (atL dAX5_setDifference_0 17 rfl) ?_
      refine v_ladd hX (jI_add _ _) (atL dAX5_setDifference_0 18 rfl) ?_
      refine v_lstore hX (lv' := [(7, .long (jI ((((dgt v m : Int)) - ((dgt y m : Int))) + c))), (6, .int (iI ((m : Int)))), (4, .long (jI (c))), (3, .int (iI ((u : Int)))), (0, .ref (w.1 3 i)), (1, .ref (w.1 3 o)), (2, .ref (w.1 3 r))]) (Nat.le_of_ble_eq_true rfl) rfl (atL dAX5_setDifference_0 19 rfl) ?_
      refine v_aload_n hX 4 rfl (atL dAX5_setDifference_0 20 rfl) ?_
      refine gf_X5_9 hX hi (atL dAX5_setDifference_0 21 rfl) ?_
      refine v_iload hX 1 rfl (atL dAX5_setDifference_0 22 rfl) ?_
      refine v_lload hX 0 rfl (atL dAX5_setDifference_0 23 rfl) ?_
      refine v_ldc2 hX (r := 268435455) wd_413 (by decide +kernel) (atL dAX5_setDifference_0 24 rfl) ?_
      refine v_land hX (r := jI (((((dgt v m : Int)) - ((dgt y m : Int))) + c) % 268435456)) (jI_mask _ 28 (by decide)) (atL dAX5_setDifference_0 25 rfl) ?_
      refine v_last hX (c := 3) m hi2 (by decide) (fun _ _ => rfl) rfl (by omega) (by decide) (atL dAX5_setDifference_0 26 rfl) ?_
      refine v_lload hX 0 rfl (atL dAX5_setDifference_0 27 rfl) ?_
      refine v_bipush hX (by decide +kernel) (atL dAX5_setDifference_0 28 rfl) ?_
      refine v_lshr hX (r := jI (((((dgt v m : Int)) - ((dgt y m : Int))) + c) / 268435456)) (jI_shr ⟨by omega, by omega⟩ 28 (by decide)) (atL dAX5_setDifference_0 29 rfl) ?_
      refine v_lstore hX (lv' := [(4, .long (jI (((((dgt v m : Int)) - ((dgt y m : Int))) + c) / 268435456))), (7, .long (jI ((((dgt v m : Int)) - ((dgt y m : Int))) + c))), (6, .int (iI ((m : Int)))), (3, .int (iI ((u : Int)))), (0, .ref (w.1 3 i)), (1, .ref (w.1 3 o)), (2, .ref (w.1 3 r))]) (Nat.le_of_ble_eq_true rfl) rfl (atL dAX5_setDifference_0 30 rfl) ?_
      refine v_iinc hX (lv' := [(6, .int (iI (((m : Int)) + 1))), (4, .long (jI (((((dgt v m : Int)) - ((dgt y m : Int))) + c) / 268435456))), (7, .long (jI ((((dgt v m : Int)) - ((dgt y m : Int))) + c))), (3, .int (iI ((u : Int)))), (0, .ref (w.1 3 i)), (1, .ref (w.1 3 o)), (2, .ref (w.1 3 r))]) 2 rfl (iI_add _ _) (Nat.le_of_ble_eq_true rfl) rfl (atL dAX5_setDifference_0 31 rfl) ?_
      refine v_goto hX (tgt := 11) (atL dAX5_setDifference_0 32 rfl) (by decide) ?_
      refine v_sub (lv' := [(6, .int (iI (((m : Int)) + 1))), (4, .long (jI (((((dgt v m : Int)) - ((dgt y m : Int))) + c) / 268435456))), (3, .int (iI ((u : Int)))), (0, .ref (w.1 3 i)), (1, .ref (w.1 3 o)), (2, .ref (w.1 3 r))]) [0, 1, 3, 4, 5, 6] rfl ?_
      refine ih (m + 1) _ _ (by omega) (by omega) (hds.su ⟨by omega, by omega⟩) (hfr.tr' (Fr.su (by simp))) ((su_rc (by decide)).trans h2) (fun j hj => by rw [su_j (by omega)]; exact hag j (by omega)) ?_
      rw [vB_suS (by omega), dgt_suc, dgt_suc, pS]
      have e := carry_I (B := 268435456) (s := (dgt v m : Int) - (dgt y m : Int) + c) (d := (dgt v m : Int) - (dgt y m : Int)) (r := ((dgt v m : Int) - (dgt y m : Int) + c) % 268435456) (q := ((dgt v m : Int) - (dgt y m : Int) + c) / 268435456) hval rfl (by omega)
      rw [Int.sub_mul] at e
      omega
  refine v_aload_n hX 1 rfl (atL dAX5_setDifference_0 0 rfl) ?_
  refine gf_X5_13 hX (v := (u : Int)) (hu) ho (atL dAX5_setDifference_0 1 rfl) ?_
  refine v_istore_n hX (i := 3) rfl (lv' := [(3, .int (iI ((u : Int)))), (0, .ref (w.1 3 i)), (1, .ref (w.1 3 o)), (2, .ref (w.1 3 r))]) (Nat.le_of_ble_eq_true rfl) rfl (atL dAX5_setDifference_0 2 rfl) ?_
  refine v_lconst hX (atL dAX5_setDifference_0 3 rfl) ?_
  show V X _ w _ _ _ (.long (jI (0)) :: _)
  refine v_lstore hX (lv' := [(4, .long (jI (0))), (3, .int (iI ((u : Int)))), (0, .ref (w.1 3 i)), (1, .ref (w.1 3 o)), (2, .ref (w.1 3 r))]) (Nat.le_of_ble_eq_true rfl) rfl (atL dAX5_setDifference_0 4 rfl) ?_
  refine v_iconst hX (atL dAX5_setDifference_0 5 rfl) ?_
  refine v_istore hX (lv' := [(6, .int (iI (0))), (4, .long (jI (0))), (3, .int (iI ((u : Int)))), (0, .ref (w.1 3 i)), (1, .ref (w.1 3 o)), (2, .ref (w.1 3 r))]) (Nat.le_of_ble_eq_true rfl) rfl (atL dAX5_setDifference_0 6 rfl) ?_
  exact loop u 0 0 σ (by omega) (Or.inl rfl) hdi Fr.rf rfl (fun j _ => rfl) rfl

set_option maxHeartbeats 4000000 in
set_option maxRecDepth 100000 in
theorem c_X5_setLess (l : Launch) (w : Wl) (σ : St) (i : Nat) (hi : w.2 3 i) (hdi : WDg σ i) (o v : Nat) (ho : w.2 3 o) (hM : WN σ o v) (hv0 : 0 < v) : Cn l yX5_setLess cX5_setLess 8 none 1 22 wN [.ref (w.1 3 i), .ref (w.1 3 o)] w σ (fun _ σ' => WN σ' i (v - 1) ∧ Fr [(2, i), (3, i)] σ σ') := by
  refine Cn.of (own := RX5) (lv := [(0, .ref (w.1 3 i)), (1, .ref (w.1 3 o))]) (by decide +kernel) rfl (Nat.le_of_ble_eq_true rfl) rfl (fun X hX hxl hR hcl hret => ?_)
  subst hxl
  have hi2 : w.2 4 i := hcl 3 i hi (4, i) (by simp [mn, tp])
  obtain ⟨u, hu, hu8, hd, ht, hv⟩ := hM
  have loop : ∀ (d m : Nat) (c : Int) (s : St), m + d = u → (c = 0 ∨ c = -1) → WDg s i → Fr [(2, i), (3, i)] σ s → s 2 = σ 2 → (∀ j, m ≤ j → s 3 i j = σ 3 i j) → ((vB 268435456 (fW s i) m : Nat) : Int) + c * ((268435456 ^ m : Nat) : Int) = ((vB 268435456 (dgt v) m : Nat) : Int) - 1 → V X (0, 0) w 12 [(5, .int (iI ((m : Int)))), (3, .long (jI (c))), (2, .int (iI ((u : Int)))), (0, .ref (w.1 3 i)), (1, .ref (w.1 3 o))] s [] := by
    intro d
    induction d with
    | zero =>
      intro m c s hm hc hds hfr h2 hag hval
      obtain rfl : m = u := by omega
      have hfin : vB 268435456 (fW s i) m = v - 1 := by
        rw [dgt_all (used_lt_pow hd hv (Nat.le_refl m))] at hval
        have hlt := vB_lt (b := 268435456) (f := fW s i) (n := m) (fun j _ => dg_lt hds j)
        have := no_borrow hval (by omega) (by omega) hc
        omega
      refine v_iload hX 0 rfl (atL dAX5_setLess_0 7 rfl) ?_
      refine v_iload_n hX 2 rfl (atL dAX5_setLess_0 8 rfl) ?_
      refine v_icmp_ge hX ⟨by omega, by omega⟩ ⟨by omega, by omega⟩ (tgt := 53) (atL dAX5_setLess_0 9 rfl) (by decide) (fun h15 => ?_) (fun h15 => absurd h15 (by omega))
      refine v_aload_n hX 3 rfl (atL dAX5_setLess_0 29 rfl) ?_
      refine v_iload_n hX 2 rfl (atL dAX5_setLess_0 30 rfl) ?_
      refine v_callV hX (As := [.int (iI ((m : Int)))]) (rest := []) (c_X5_trim (xl X) w s i m hi hds (by omega)) lk_X5_29 hi (fun _ => rfl) rfl rfl rfl (by rw [hR]; exact ⟨Nat.le_of_ble_eq_true rfl, Nat.le_of_ble_eq_true rfl⟩) ⟨Nat.zero_le _, Nat.zero_le _⟩ rfl (Nat.le_of_ble_eq_true rfl) (atL dAX5_setLess_0 31 rfl) (fun _ s1 h1 => ?_)
      obtain ⟨t, h1a, rfl, h1b, h1c⟩ := h1
      show V X _ w _ _ (su s 2 i 0 ((t : Int))) []
      exact v_vret hX (atL dAX5_setLess_0 32 rfl) (hret () _ ⟨trim_nm hds (by omega) h1a h1b h1c hfin, hfr.tr' (Fr.su (by simp))⟩)
    | succ d ih =>
      intro m c s hm hc hds hfr h2 hag hval
      have hro : s 3 o m = σ 3 o m := by by_cases e : o = i; rw [e]; exact hag m (Nat.le_refl m); rw [hfr 3 o (by simp [e])]
      refine v_iload hX 0 rfl (atL dAX5_setLess_0 7 rfl) ?_
      refine v_iload_n hX 2 rfl (atL dAX5_setLess_0 8 rfl) ?_
      refine v_icmp_ge hX ⟨by omega, by omega⟩ ⟨by omega, by omega⟩ (tgt := 53) (atL dAX5_setLess_0 9 rfl) (by decide) (fun h15 => absurd h15 (by omega)) (fun h15 => ?_)
      refine v_aload_n hX 4 rfl (atL dAX5_setLess_0 10 rfl) ?_
      refine v_iload hX 0 rfl (atL dAX5_setLess_0 11 rfl) ?_
      refine v_callV hX (As := [.int (iI ((m : Int)))]) (rest := []) (c_X5_limbAt (xl X) w s o u ho (by rw [h2]; exact hu) hu8 ((m : Int)) ⟨by omega, by omega⟩) lk_X5_17 ho (fun _ => rfl) rfl rfl rfl (by rw [hR]; exact ⟨Nat.le_of_ble_eq_true rfl, Nat.le_of_ble_eq_true rfl⟩) ⟨Nat.zero_le _, Nat.zero_le _⟩ rfl (Nat.le_of_ble_eq_true rfl) (atL dAX5_setLess_0 12 rfl) (fun ra sra hra => ?_)
      obtain ⟨hraa, hsra⟩ := hra
      rw [hsra]
      have hrab : ra = (dgt v (m) : Int) := by rw [← dgt_WN hd hv (m), hraa, show ((m : Int) : Int).toNat = m by omega, hro]; split <;> split <;> first | rfl | omega
      subst hrab
      have hrac := dgt_lt v (m)
      show V X _ w _ _ s [.long (jI ((dgt v m : Int)))]
      refine v_lload_n hX 1 rfl (atL dAX5_setLess_0 13 rfl) ?_
      refine v_ladd hX (jI_add _ _) (atL dAX5_setLess_0 14 rfl) ?_
      refine v_lstore hX (lv' := [(6, .long (jI (((dgt v m : Int)) + c))), (5, .int (iI ((m : Int)))), (3, .long (jI (c))), (2, .int (iI ((u : Int)))), (0, .ref (w.1 3 i)), (1, .ref (w.1 3 o))]) (Nat.le_of_ble_eq_true rfl) rfl (atL dAX5_setLess_0 15 rfl) ?_
      refine v_aload_n hX 4 rfl (atL dAX5_setLess_0 16 rfl) ?_
      refine gf_X5_9 hX hi (atL dAX5_setLess_0 17 rfl) ?_
      refine v_iload hX 1 rfl (atL dAX5_setLess_0 18 rfl) ?_
      refine v_lload hX 0 rfl (atL dAX5_setLess_0 19 rfl) ?_
      refine v_ldc2 hX (r := 268435455) wd_413 (by decide +kernel) (atL dAX5_setLess_0 20 rfl) ?_
      refine v_land hX (r := jI ((((dgt v m : Int)) + c) % 268435456)) (jI_mask _ 28 (by decide)) (atL dAX5_setLess_0 21 rfl) ?_
      refine v_last hX (c := 3) m hi2 (by decide) (fun _ _ => rfl) rfl (by omega) (by decide) (atL dAX5_setLess_0 22 rfl) ?_
      refine v_lload hX 0 rfl (atL dAX5_setLess_0 23 rfl) ?_
      refine v_bipush hX (by decide +kernel) (atL dAX5_setLess_0 24 rfl) ?_
      refine v_lshr hX (r := jI ((((dgt v m : Int)) + c) / 268435456)) (jI_shr ⟨by omega, by omega⟩ 28 (by decide)) (atL dAX5_setLess_0 25 rfl) ?_
      refine v_lstore_n hX (i := 3) rfl (lv' := [(3, .long (jI ((((dgt v m : Int)) + c) / 268435456))), (6, .long (jI (((dgt v m : Int)) + c))), (5, .int (iI ((m : Int)))), (2, .int (iI ((u : Int)))), (0, .ref (w.1 3 i)), (1, .ref (w.1 3 o))]) (Nat.le_of_ble_eq_true rfl) rfl (atL dAX5_setLess_0 26 rfl) ?_
      refine v_iinc hX (lv' := [(5, .int (iI (((m : Int)) + 1))), (3, .long (jI ((((dgt v m : Int)) + c) / 268435456))), (6, .long (jI (((dgt v m : Int)) + c))), (2, .int (iI ((u : Int)))), (0, .ref (w.1 3 i)), (1, .ref (w.1 3 o))]) 2 rfl (iI_add _ _) (Nat.le_of_ble_eq_true rfl) rfl (atL dAX5_setLess_0 27 rfl) ?_
      refine v_goto hX (tgt := 12) (atL dAX5_setLess_0 28 rfl) (by decide) ?_
      refine v_sub (lv' := [(5, .int (iI (((m : Int)) + 1))), (3, .long (jI ((((dgt v m : Int)) + c) / 268435456))), (2, .int (iI ((u : Int)))), (0, .ref (w.1 3 i)), (1, .ref (w.1 3 o))]) [0, 1, 3, 4, 5] rfl ?_
      refine ih (m + 1) _ _ (by omega) (by omega) (hds.su ⟨by omega, by omega⟩) (hfr.tr' (Fr.su (by simp))) ((su_rc (by decide)).trans h2) (fun j hj => by rw [su_j (by omega)]; exact hag j (by omega)) ?_
      rw [vB_suS (by omega), dgt_suc, pS]
      have e := carry_I (B := 268435456) (s := (dgt v m : Int) + c) (d := (dgt v m : Int)) (r := ((dgt v m : Int) + c) % 268435456) (q := ((dgt v m : Int) + c) / 268435456) hval rfl (by omega)
      omega
  refine v_aload_n hX 1 rfl (atL dAX5_setLess_0 0 rfl) ?_
  refine gf_X5_13 hX (v := (u : Int)) (hu) ho (atL dAX5_setLess_0 1 rfl) ?_
  refine v_istore_n hX (i := 2) rfl (lv' := [(2, .int (iI ((u : Int)))), (0, .ref (w.1 3 i)), (1, .ref (w.1 3 o))]) (Nat.le_of_ble_eq_true rfl) rfl (atL dAX5_setLess_0 2 rfl) ?_
  refine v_ldc2 hX (r := -1) wd_599 (by decide +kernel) (atL dAX5_setLess_0 3 rfl) ?_
  refine v_lstore_n hX (i := 3) rfl (lv' := [(3, .long (jI ((-1)))), (2, .int (iI ((u : Int)))), (0, .ref (w.1 3 i)), (1, .ref (w.1 3 o))]) (Nat.le_of_ble_eq_true rfl) rfl (atL dAX5_setLess_0 4 rfl) ?_
  refine v_iconst hX (atL dAX5_setLess_0 5 rfl) ?_
  refine v_istore hX (lv' := [(5, .int (iI (0))), (3, .long (jI ((-1)))), (2, .int (iI ((u : Int)))), (0, .ref (w.1 3 i)), (1, .ref (w.1 3 o))]) (Nat.le_of_ble_eq_true rfl) rfl (atL dAX5_setLess_0 6 rfl) ?_
  exact loop u 0 (-1) σ (by omega) (Or.inr rfl) hdi Fr.rf rfl (fun j _ => rfl) (by rw [Nat.pow_zero]; rfl)

set_option maxHeartbeats 4000000 in
set_option maxRecDepth 100000 in
theorem c_X5_addSmall (l : Launch) (w : Wl) (σ : St) (i v : Nat) (hi : w.2 3 i) (hN : WN σ i v) (hv7 : v < 268435456 ^ 79) : Cn l yX5_addSmall cX5_addSmall 8 none 0 0 wN [.ref (w.1 3 i), .int (iI (1))] w σ (fun _ σ' => WN σ' i (v + 1) ∧ Fr [(2, i), (3, i)] σ σ') := by
  refine Cn.of (own := RX5) (lv := [(0, .ref (w.1 3 i)), (1, .int (iI (1)))]) (by decide +kernel) rfl (Nat.le_of_ble_eq_true rfl) rfl (fun X hX hxl hR hcl hret => ?_)
  subst hxl
  have hi2 : w.2 4 i := hcl 3 i hi (4, i) (by simp [mn, tp])
  obtain ⟨u, hu, hu8, hd, ht, hv⟩ := hN
  have hu7 := used_le hd ht hv hv7
  have hvu := used_lt_pow hd hv (Nat.le_refl u)
  have hge : 0 < u → 268435456 ^ (u - 1) ≤ v := WN.ge hd ht hv
  have hdg : ∀ j, j < u → σ 3 i j = (dgt v j : Int) := fun j hj => by rw [← dgt_WN hd hv j, if_pos hj]
  have loop : ∀ (d m : Nat) (c : Int) (s : St), m + d = u → 0 ≤ c → c ≤ 1 → WDg s i → Fr [(2, i), (3, i)] σ s → s 2 = σ 2 → (∀ j, m ≤ j → s 3 i j = σ 3 i j) → ((vB 268435456 (fW s i) m : Nat) : Int) + c * ((268435456 ^ m : Nat) : Int) = ((vB 268435456 (dgt v) m : Nat) : Int) + 1 → V X (0, 0) w 12 [(5, .int (iI ((m : Int)))), (4, .int (iI ((u : Int)))), (2, .long (jI (c))), (0, .ref (w.1 3 i)), (1, .int (iI (1)))] s [] := by
    intro d
    induction d with
    | zero =>
      intro m c s hm hc0 hc1 hds hfr h2 hag hval
      obtain rfl : m = u := by omega
      refine v_iload hX 0 rfl (atL dAX5_addSmall_0 8 rfl) ?_
      refine v_iload hX 1 rfl (atL dAX5_addSmall_0 9 rfl) ?_
      refine v_icmp_ge hX ⟨by omega, by omega⟩ ⟨by omega, by omega⟩ (tgt := 61) (atL dAX5_addSmall_0 10 rfl) (by decide) (fun h16 => ?_) (fun h16 => absurd h16 (by omega))
      refine v_lload_n hX 2 rfl (atL dAX5_addSmall_0 35 rfl) ?_
      refine v_lconst hX (atL dAX5_addSmall_0 36 rfl) ?_
      show V X _ w _ _ _ (.long (jI (0)) :: _)
      refine v_lcmp_eq hX ⟨by omega, by omega⟩ ⟨by omega, by omega⟩ (atL dAX5_addSmall_0 37 rfl) (tgt := 90) (atL dAX5_addSmall_0 38 rfl) (by decide) (fun h63 => ?_) (fun h63 => ?_)
      · have hval0 : vB 268435456 (fW s i) m = v + 1 := by
          have e := vB_rest (f := fW s i) (g := dgt v) (m := m) (u := m) (e := 1) (by omega) (fun j a b => by show (s 3 i j).toNat = _; rw [hag j a, hdg j b]; omega) (by rw [show c = 0 by omega] at hval; omega)
          rw [dgt_all hvu] at e
          exact e
        exact v_vret hX (atL dAX5_addSmall_0 52 rfl) (hret () _ ⟨⟨m, by rw [h2]; exact hu, hu8, hds, fun h0 => nm_top hds h0 hval0 (by have := hge h0; omega), hval0⟩, hfr⟩)
      · refine v_iload hX 1 rfl (atL dAX5_addSmall_0 39 rfl) ?_
        refine v_bipush hX (by decide +kernel) (atL dAX5_addSmall_0 40 rfl) ?_
        refine v_icmp_ge hX ⟨by omega, by omega⟩ ⟨by omega, by omega⟩ (tgt := 90) (atL dAX5_addSmall_0 41 rfl) (by decide) (fun h71 => absurd h71 (by omega)) (fun h71 => ?_)
        refine v_aload_n hX 3 rfl (atL dAX5_addSmall_0 42 rfl) ?_
        refine gf_X5_9 hX hi (atL dAX5_addSmall_0 43 rfl) ?_
        refine v_iload hX 1 rfl (atL dAX5_addSmall_0 44 rfl) ?_
        refine v_lload_n hX 2 rfl (atL dAX5_addSmall_0 45 rfl) ?_
        refine v_last hX (c := 3) m hi2 (by decide) (fun _ _ => rfl) rfl (by omega) (by decide) (atL dAX5_addSmall_0 46 rfl) ?_
        refine v_aload_n hX 3 rfl (atL dAX5_addSmall_0 47 rfl) ?_
        refine v_iload hX 1 rfl (atL dAX5_addSmall_0 48 rfl) ?_
        refine v_iconst hX (atL dAX5_addSmall_0 49 rfl) ?_
        refine v_iadd hX (iI_add _ _) (atL dAX5_addSmall_0 50 rfl) ?_
        refine pf_X5_13 hX hi (atL dAX5_addSmall_0 51 rfl) ?_
        have hval0 : vB 268435456 (fW (su s 3 i m c) i) (m + 1) = v + 1 := by
          have e := vB_suS (σ := s) (i := i) (m := m) hc0
          rw [dgt_all hvu] at hval
          omega
        exact v_vret hX (atL dAX5_addSmall_0 52 rfl) (hret () _ ⟨⟨m + 1, su_s, by omega, by rw [su_rc (by decide)]; exact hds.su ⟨by omega, by omega⟩, fun _ => by rw [su_rc (by decide), show m + 1 - 1 = m by omega, su_s]; omega, by rw [su_rc (by decide)]; exact hval0⟩, (hfr.tr' (Fr.su (by simp))).tr' (Fr.su (by simp))⟩)
    | succ d ih =>
      intro m c s hm hc0 hc1 hds hfr h2 hag hval
      have hdm := dgt_lt v m
      refine v_iload hX 0 rfl (atL dAX5_addSmall_0 8 rfl) ?_
      refine v_iload hX 1 rfl (atL dAX5_addSmall_0 9 rfl) ?_
      refine v_icmp_ge hX ⟨by omega, by omega⟩ ⟨by omega, by omega⟩ (tgt := 61) (atL dAX5_addSmall_0 10 rfl) (by decide) (fun h16 => absurd h16 (by omega)) (fun h16 => ?_)
      refine v_lload_n hX 2 rfl (atL dAX5_addSmall_0 11 rfl) ?_
      refine v_lconst hX (atL dAX5_addSmall_0 12 rfl) ?_
      show V X _ w _ _ _ (.long (jI (0)) :: _)
      refine v_lcmp_eq hX ⟨by omega, by omega⟩ ⟨by omega, by omega⟩ (atL dAX5_addSmall_0 13 rfl) (tgt := 61) (atL dAX5_addSmall_0 14 rfl) (by decide) (fun h21 => ?_) (fun h21 => ?_)
      · refine v_lload_n hX 2 rfl (atL dAX5_addSmall_0 35 rfl) ?_
        refine v_lconst hX (atL dAX5_addSmall_0 36 rfl) ?_
        show V X _ w _ _ _ (.long (jI 0) :: _)
        refine v_lcmp_eq hX ⟨by omega, by omega⟩ ⟨by omega, by omega⟩ (atL dAX5_addSmall_0 37 rfl) (tgt := 90) (atL dAX5_addSmall_0 38 rfl) (by decide) (fun h63 => ?_) (fun h63 => absurd h63 (by omega))
        have hval0 : vB 268435456 (fW s i) u = v + 1 := by
          have e := vB_rest (f := fW s i) (g := dgt v) (m := m) (u := u) (e := 1) (by omega) (fun j a b => by show (s 3 i j).toNat = _; rw [hag j a, hdg j b]; omega) (by rw [show c = 0 by omega] at hval; omega)
          rw [dgt_all hvu] at e
          exact e
        exact v_vret hX (atL dAX5_addSmall_0 52 rfl) (hret () _ ⟨⟨u, by rw [h2]; exact hu, hu8, hds, fun h0 => nm_top hds h0 hval0 (by have := hge h0; omega), hval0⟩, hfr⟩)
      · refine v_aload_n hX 3 rfl (atL dAX5_addSmall_0 15 rfl) ?_
        refine gf_X5_9 hX hi (atL dAX5_addSmall_0 16 rfl) ?_
        refine v_iload hX 0 rfl (atL dAX5_addSmall_0 17 rfl) ?_
        refine v_lald hX (r := jI ((dgt v m : Int))) m hi2 (fun _ => rfl) rfl (by omega) (by decide) (congrArg jI ((hag m (Nat.le_refl m)).trans (hdg m (by omega)))) (atL dAX5_addSmall_0 18 rfl) ?_
        refine v_lload_n hX 2 rfl (atL dAX5_addSmall_0 19 rfl) ?_
        refine v_ladd hX (jI_add _ _) (atL dAX5_addSmall_0 20 rfl) ?_
        refine v_lstore hX (lv' := [(6, .long (jI (((dgt v m : Int)) + c))), (5, .int (iI ((m : Int)))), (4, .int (iI ((u : Int)))), (2, .long (jI (c))), (0, .ref (w.1 3 i)), (1, .int (iI (1)))]) (Nat.le_of_ble_eq_true rfl) rfl (atL dAX5_addSmall_0 21 rfl) ?_
        refine v_aload_n hX 4 rfl (atL dAX5_addSmall_0 22 rfl) ?_
        refine gf_X5_9 hX hi (atL dAX5_addSmall_0 23 rfl) ?_
        refine v_iload hX 1 rfl (atL dAX5_addSmall_0 24 rfl) ?_
        refine v_lload hX 0 rfl (atL dAX5_addSmall_0 25 rfl) ?_
        refine v_ldc2 hX (r := 268435455) wd_413 (by decide +kernel) (atL dAX5_addSmall_0 26 rfl) ?_
        refine v_land hX (r := jI ((((dgt v m : Int)) + c) % 268435456)) (jI_mask _ 28 (by decide)) (atL dAX5_addSmall_0 27 rfl) ?_
        refine v_last hX (c := 3) m hi2 (by decide) (fun _ _ => rfl) rfl (by omega) (by decide) (atL dAX5_addSmall_0 28 rfl) ?_
        refine v_lload hX 0 rfl (atL dAX5_addSmall_0 29 rfl) ?_
        refine v_bipush hX (by decide +kernel) (atL dAX5_addSmall_0 30 rfl) ?_
        refine v_lshr hX (r := jI ((((dgt v m : Int)) + c) / 268435456)) (jI_shr ⟨by omega, by omega⟩ 28 (by decide)) (atL dAX5_addSmall_0 31 rfl) ?_
        refine v_lstore_n hX (i := 2) rfl (lv' := [(2, .long (jI ((((dgt v m : Int)) + c) / 268435456))), (6, .long (jI (((dgt v m : Int)) + c))), (5, .int (iI ((m : Int)))), (4, .int (iI ((u : Int)))), (0, .ref (w.1 3 i)), (1, .int (iI (1)))]) (Nat.le_of_ble_eq_true rfl) rfl (atL dAX5_addSmall_0 32 rfl) ?_
        refine v_iinc hX (lv' := [(5, .int (iI (((m : Int)) + 1))), (2, .long (jI ((((dgt v m : Int)) + c) / 268435456))), (6, .long (jI (((dgt v m : Int)) + c))), (4, .int (iI ((u : Int)))), (0, .ref (w.1 3 i)), (1, .int (iI (1)))]) 2 rfl (iI_add _ _) (Nat.le_of_ble_eq_true rfl) rfl (atL dAX5_addSmall_0 33 rfl) ?_
        refine v_goto hX (tgt := 12) (atL dAX5_addSmall_0 34 rfl) (by decide) ?_
        refine v_sub (lv' := [(5, .int (iI (((m : Int)) + 1))), (4, .int (iI ((u : Int)))), (2, .long (jI ((((dgt v m : Int)) + c) / 268435456))), (0, .ref (w.1 3 i)), (1, .int (iI (1)))]) [0, 3, 1, 4, 5] rfl ?_
        refine ih (m + 1) _ _ (by omega) (by omega) (by omega) (hds.su ⟨by omega, by omega⟩) (hfr.tr' (Fr.su (by simp))) ((su_rc (by decide)).trans h2) (fun j hj => by rw [su_j (by omega)]; exact hag j (by omega)) ?_
        rw [vB_suS (by omega), dgt_suc, pS]
        have e := carry_I (B := 268435456) (s := (dgt v m : Int) + c) (d := (dgt v m : Int)) (r := ((dgt v m : Int) + c) % 268435456) (q := ((dgt v m : Int) + c) / 268435456) hval rfl (by omega)
        omega
  refine v_iload_n hX 1 rfl (atL dAX5_addSmall_0 0 rfl) ?_
  refine v_i2l hX (iI_i2l ⟨by omega, by omega⟩) (atL dAX5_addSmall_0 1 rfl) ?_
  refine v_lstore_n hX (i := 2) rfl (lv' := [(2, .long (jI (1))), (0, .ref (w.1 3 i)), (1, .int (iI (1)))]) (Nat.le_of_ble_eq_true rfl) rfl (atL dAX5_addSmall_0 2 rfl) ?_
  refine v_aload_n hX 1 rfl (atL dAX5_addSmall_0 3 rfl) ?_
  refine gf_X5_13 hX (v := (u : Int)) (hu) hi (atL dAX5_addSmall_0 4 rfl) ?_
  refine v_istore hX (lv' := [(4, .int (iI ((u : Int)))), (2, .long (jI (1))), (0, .ref (w.1 3 i)), (1, .int (iI (1)))]) (Nat.le_of_ble_eq_true rfl) rfl (atL dAX5_addSmall_0 5 rfl) ?_
  refine v_iconst hX (atL dAX5_addSmall_0 6 rfl) ?_
  refine v_istore hX (lv' := [(5, .int (iI (0))), (4, .int (iI ((u : Int)))), (2, .long (jI (1))), (0, .ref (w.1 3 i)), (1, .int (iI (1)))]) (Nat.le_of_ble_eq_true rfl) rfl (atL dAX5_addSmall_0 7 rfl) ?_
  exact loop u 0 1 σ (by omega) (by omega) (by omega) hd Fr.rf rfl (fun j _ => rfl) (by rw [Nat.pow_zero]; rfl)
