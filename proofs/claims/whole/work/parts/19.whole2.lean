set_option maxHeartbeats 4000000 in
set_option maxRecDepth 100000 in
theorem c_X5_order (l : Launch) (w : Wl) (σ : St) (i v : Nat) (hi : w.2 3 i) (hN : WN σ i v) (o y : Nat) (hj : w.2 3 o) (hM : WN σ o y) : Cn l yX5_order cX5_order 7 (Option.some Jvm.ClassFile.FieldType.int) 1 21 wI [.ref (w.1 3 i), .ref (w.1 3 o)] w σ (fun a σ' => a = (if v < y then -1 else if v = y then 0 else 1) ∧ σ' = σ) := by
  refine Cn.of (own := RX5) (lv := [(0, .ref (w.1 3 i)), (1, .ref (w.1 3 o))]) (by decide +kernel) rfl (Nat.le_of_ble_eq_true rfl) rfl (fun X hX hxl hR hcl hret => ?_)
  subst hxl
  have hi2 : w.2 4 i := hcl 3 i hi (4, i) (by simp [mn, tp])
  obtain ⟨u, hu, hu8, hd, ht, hv⟩ := hN
  obtain ⟨x, hx, hx8, he, hxt, hy⟩ := hM
  have loop : u = x → ∀ (n : Nat), n ≤ u → (∀ j, n ≤ j → j < u → σ 3 i j = σ 3 o j) → V X (0, 0) w 35 [(2, .int (iI ((n : Int) - 1))), (0, .ref (w.1 3 i)), (1, .ref (w.1 3 o))] σ [] := by
    intro hux n
    subst hux
    induction n with
    | zero =>
      intro hn hag
      refine v_iload_n hX 0 rfl (atL dAX5_order_0 19 rfl) ?_
      refine v_if_lt hX ⟨by omega, by omega⟩ (tgt := 78) (atL dAX5_order_0 20 rfl) (by decide) (fun h36 => ?_) (fun h36 => absurd h36 (by omega))
      refine v_iconst hX (atL dAX5_order_0 43 rfl) ?_
      exact v_iret hX (atL dAX5_order_0 44 rfl) (hret _ _ ⟨by rw [if_neg (by have := dig_eq hv hy hag rfl; omega), if_pos (dig_eq hv hy hag rfl)], rfl⟩)
    | succ n ih =>
      intro hn hag
      have hdn := hd n
      have hen := he n
      refine v_iload_n hX 0 rfl (atL dAX5_order_0 19 rfl) ?_
      refine v_if_lt hX ⟨by omega, by omega⟩ (tgt := 78) (atL dAX5_order_0 20 rfl) (by decide) (fun h36 => absurd h36 (by omega)) (fun h36 => ?_)
      refine v_aload_n hX 1 rfl (atL dAX5_order_0 21 rfl) ?_
      refine v_iload_n hX 0 rfl (atL dAX5_order_0 22 rfl) ?_
      refine v_callV hX (As := [.int (iI (((n + 1 : Nat) : Int) - 1))]) (rest := []) (c_X5_limbAt (xl X) w σ i u hi hu hu8 (((n + 1 : Nat) : Int) - 1) ⟨by omega, by omega⟩) lk_X5_17 hi (fun _ => rfl) rfl rfl rfl (by rw [hR]; exact ⟨Nat.le_of_ble_eq_true rfl, Nat.le_of_ble_eq_true rfl⟩) ⟨Nat.zero_le _, Nat.zero_le _⟩ rfl (Nat.le_of_ble_eq_true rfl) (atL dAX5_order_0 23 rfl) (fun ra sra hra => ?_)
      obtain ⟨hraa, hsra⟩ := hra
      rw [hsra]
      rw [if_pos ⟨by omega, by omega⟩, show (((n + 1 : Nat) : Int) - 1).toNat = n by omega] at hraa
      subst hraa
      show V X _ w _ _ σ [.long (jI (σ 3 i n))]
      refine v_lstore_n hX (i := 3) rfl (lv' := [(3, .long (jI (σ 3 i n))), (2, .int (iI (((n + 1 : Nat) : Int) - 1))), (0, .ref (w.1 3 i)), (1, .ref (w.1 3 o))]) (Nat.le_of_ble_eq_true rfl) rfl (atL dAX5_order_0 24 rfl) ?_
      refine v_aload_n hX 3 rfl (atL dAX5_order_0 25 rfl) ?_
      refine v_iload_n hX 1 rfl (atL dAX5_order_0 26 rfl) ?_
      refine v_callV hX (As := [.int (iI (((n + 1 : Nat) : Int) - 1))]) (rest := []) (c_X5_limbAt (xl X) w σ o u hj hx hx8 (((n + 1 : Nat) : Int) - 1) ⟨by omega, by omega⟩) lk_X5_17 hj (fun _ => rfl) rfl rfl rfl (by rw [hR]; exact ⟨Nat.le_of_ble_eq_true rfl, Nat.le_of_ble_eq_true rfl⟩) ⟨Nat.zero_le _, Nat.zero_le _⟩ rfl (Nat.le_of_ble_eq_true rfl) (atL dAX5_order_0 27 rfl) (fun rb srb hrb => ?_)
      obtain ⟨hrba, hsrb⟩ := hrb
      rw [hsrb]
      rw [if_pos ⟨by omega, by omega⟩, show (((n + 1 : Nat) : Int) - 1).toNat = n by omega] at hrba
      subst hrba
      show V X _ w _ _ σ [.long (jI (σ 3 o n))]
      refine v_lstore hX (lv' := [(5, .long (jI (σ 3 o n))), (3, .long (jI (σ 3 i n))), (2, .int (iI (((n + 1 : Nat) : Int) - 1))), (0, .ref (w.1 3 i)), (1, .ref (w.1 3 o))]) (Nat.le_of_ble_eq_true rfl) rfl (atL dAX5_order_0 28 rfl) ?_
      refine v_lload_n hX 1 rfl (atL dAX5_order_0 29 rfl) ?_
      refine v_lload hX 0 rfl (atL dAX5_order_0 30 rfl) ?_
      refine v_lcmp_eq hX ⟨by omega, by omega⟩ ⟨by omega, by omega⟩ (atL dAX5_order_0 31 rfl) (tgt := 72) (atL dAX5_order_0 32 rfl) (by decide) (fun h55 => ?_) (fun h55 => ?_)
      · refine v_iinc hX (lv' := [(2, .int (iI ((((n + 1 : Nat) : Int) - 1) + (-1)))), (5, .long (jI (σ 3 o n))), (3, .long (jI (σ 3 i n))), (0, .ref (w.1 3 i)), (1, .ref (w.1 3 o))]) 2 rfl (iI_add _ _) (Nat.le_of_ble_eq_true rfl) rfl (atL dAX5_order_0 41 rfl) ?_
        refine v_goto hX (tgt := 35) (atL dAX5_order_0 42 rfl) (by decide) ?_
        refine v_sub (lv' := [(2, .int (iI ((((n + 1 : Nat) : Int) - 1) + (-1)))), (0, .ref (w.1 3 i)), (1, .ref (w.1 3 o))]) [0, 3, 4] rfl ?_
        rw [show ((n + 1 : Nat) : Int) - 1 + (-1) = (n : Int) - 1 by omega]
        refine ih (by omega) (fun j a b => ?_)
        rcases Nat.lt_or_ge n j with h | h
        · exact hag j (by omega) b
        · rw [show j = n by omega]; exact h55
      · refine v_lload_n hX 1 rfl (atL dAX5_order_0 33 rfl) ?_
        refine v_lload hX 0 rfl (atL dAX5_order_0 34 rfl) ?_
        refine v_lcmp_ge hX ⟨by omega, by omega⟩ ⟨by omega, by omega⟩ (atL dAX5_order_0 35 rfl) (tgt := 70) (atL dAX5_order_0 36 rfl) (by decide) (fun h62 => ?_) (fun h62 => ?_)
        · refine v_iconst hX (atL dAX5_order_0 39 rfl) ?_
          exact v_iret hX (atL dAX5_order_0 40 rfl) (hret _ _ ⟨by have hlt := dig_lt he hd hy hv (fun j a b => (hag j (by omega) b).symm) (n := n) (by omega) (by omega); rw [if_neg (by omega), if_neg (by omega)], rfl⟩)
        · refine v_iconst hX (atL dAX5_order_0 37 rfl) ?_
          refine v_goto hX (tgt := 71) (atL dAX5_order_0 38 rfl) (by decide) ?_
          exact v_iret hX (atL dAX5_order_0 40 rfl) (hret _ _ ⟨by rw [if_pos (dig_lt (n := n) hd he hv hy (fun j a b => hag j (by omega) b) (by omega) (by omega))], rfl⟩)
  refine v_aload_n hX 0 rfl (atL dAX5_order_0 0 rfl) ?_
  refine gf_X5_13 hX (v := (u : Int)) (hu) hi (atL dAX5_order_0 1 rfl) ?_
  refine v_aload_n hX 1 rfl (atL dAX5_order_0 2 rfl) ?_
  refine gf_X5_13 hX (v := (x : Int)) (hx) hj (atL dAX5_order_0 3 rfl) ?_
  refine v_icmp_eq hX ⟨by omega, by omega⟩ ⟨by omega, by omega⟩ (tgt := 28) (atL dAX5_order_0 4 rfl) (by decide) (fun h8 => ?_) (fun h8 => ?_)
  · refine v_aload_n hX 0 rfl (atL dAX5_order_0 14 rfl) ?_
    refine gf_X5_13 hX (v := (u : Int)) (hu) hi (atL dAX5_order_0 15 rfl) ?_
    refine v_iconst hX (atL dAX5_order_0 16 rfl) ?_
    refine v_isub hX (iI_sub _ _) (atL dAX5_order_0 17 rfl) ?_
    refine v_istore_n hX (i := 2) rfl (lv' := [(2, .int (iI (((u : Int)) - 1))), (0, .ref (w.1 3 i)), (1, .ref (w.1 3 o))]) (Nat.le_of_ble_eq_true rfl) rfl (atL dAX5_order_0 18 rfl) ?_
    exact loop (by omega) u (Nat.le_refl u) (fun j a b => absurd a (by omega))
  · refine v_aload_n hX 0 rfl (atL dAX5_order_0 5 rfl) ?_
    refine gf_X5_13 hX (v := (u : Int)) (hu) hi (atL dAX5_order_0 6 rfl) ?_
    refine v_aload_n hX 1 rfl (atL dAX5_order_0 7 rfl) ?_
    refine gf_X5_13 hX (v := (x : Int)) (hx) hj (atL dAX5_order_0 8 rfl) ?_
    refine v_icmp_ge hX ⟨by omega, by omega⟩ ⟨by omega, by omega⟩ (tgt := 26) (atL dAX5_order_0 9 rfl) (by decide) (fun h19 => ?_) (fun h19 => ?_)
    · refine v_iconst hX (atL dAX5_order_0 12 rfl) ?_
      exact v_iret hX (atL dAX5_order_0 13 rfl) (hret _ _ ⟨by have hlt := used_lt he hy hd ht hv (by omega); rw [if_neg (by omega), if_neg (by omega)], rfl⟩)
    · refine v_iconst hX (atL dAX5_order_0 10 rfl) ?_
      refine v_goto hX (tgt := 27) (atL dAX5_order_0 11 rfl) (by decide) ?_
      exact v_iret hX (atL dAX5_order_0 13 rfl) (hret _ _ ⟨by rw [if_pos (used_lt hd hv he hxt hy (by omega))], rfl⟩)

set_option maxHeartbeats 4000000 in
set_option maxRecDepth 100000 in
theorem c_X5_trim (l : Launch) (w : Wl) (σ : St) (i n : Nat) (hi : w.2 3 i) (hd : WDg σ i) (hn : n ≤ 80) : Cn l yX5_trim cX5_trim 3 none 0 0 wN [.ref (w.1 3 i), .int (iI ((n : Int)))] w σ (fun _ σ' => ∃ t : Nat, t ≤ n ∧ σ' = su σ 2 i 0 (t : Int) ∧ (0 < t → σ 3 i (t - 1) ≠ 0) ∧ ∀ j, t ≤ j → j < n → σ 3 i j = 0) := by
  refine Cn.of (own := RX5) (lv := [(0, .ref (w.1 3 i)), (1, .int (iI ((n : Int))))]) (by decide +kernel) rfl (Nat.le_of_ble_eq_true rfl) rfl (fun X hX hxl hR hcl hret => ?_)
  subst hxl
  have hi2 : w.2 4 i := hcl 3 i hi (4, i) (by simp [mn, tp])
  have loop : ∀ (m : Nat), m ≤ n → (∀ j, m ≤ j → j < n → σ 3 i j = 0) → V X (0, 0) w 13 [(2, .int (iI ((m : Int)))), (0, .ref (w.1 3 i)), (1, .int (iI ((n : Int))))] σ [] := by
    intro m
    induction m with
    | zero =>
      intro hm hz
      refine v_iload_n hX 0 rfl (atL dAX5_trim_0 7 rfl) ?_
      refine v_if_le hX ⟨by omega, by omega⟩ (tgt := 42) (atL dAX5_trim_0 8 rfl) (by decide) (fun h14 => ?_) (fun h14 => absurd h14 (by omega))
      refine v_aload_n hX 1 rfl (atL dAX5_trim_0 24 rfl) ?_
      refine v_iconst hX (atL dAX5_trim_0 25 rfl) ?_
      refine pf_X5_13 hX hi (atL dAX5_trim_0 26 rfl) ?_
      exact v_vret hX (atL dAX5_trim_0 27 rfl) (hret () _ ⟨0, by omega, rfl, by omega, hz⟩)
    | succ m ih =>
      intro hm hz
      have hdm := hd m
      refine v_iload_n hX 0 rfl (atL dAX5_trim_0 7 rfl) ?_
      refine v_if_le hX ⟨by omega, by omega⟩ (tgt := 42) (atL dAX5_trim_0 8 rfl) (by decide) (fun h14 => absurd h14 (by omega)) (fun h14 => ?_)
      refine v_aload_n hX 1 rfl (atL dAX5_trim_0 9 rfl) ?_
      refine gf_X5_9 hX hi (atL dAX5_trim_0 10 rfl) ?_
      refine v_iload_n hX 0 rfl (atL dAX5_trim_0 11 rfl) ?_
      refine v_iconst hX (atL dAX5_trim_0 12 rfl) ?_
      refine v_isub hX (iI_sub _ _) (atL dAX5_trim_0 13 rfl) ?_
      refine v_lald hX (r := jI (σ 3 i m)) m hi2 (fun _ => rfl) (by omega) (by omega) (by decide) (congrArg jI (rfl)) (atL dAX5_trim_0 14 rfl) ?_
      refine v_lconst hX (atL dAX5_trim_0 15 rfl) ?_
      show V X _ w _ _ _ (.long (jI (0)) :: _)
      refine v_lcmp_eq hX ⟨by omega, by omega⟩ ⟨by omega, by omega⟩ (atL dAX5_trim_0 16 rfl) (tgt := 36) (atL dAX5_trim_0 17 rfl) (by decide) (fun h26 => ?_) (fun h26 => ?_)
      · refine v_iinc hX (lv' := [(2, .int (iI ((((m + 1 : Nat) : Int)) + (-1)))), (0, .ref (w.1 3 i)), (1, .int (iI ((n : Int))))]) 0 rfl (iI_add _ _) (Nat.le_of_ble_eq_true rfl) rfl (atL dAX5_trim_0 22 rfl) ?_
        refine v_goto hX (tgt := 13) (atL dAX5_trim_0 23 rfl) (by decide) ?_
        rw [show ((m + 1 : Nat) : Int) + (-1) = (m : Int) by omega]
        exact ih (by omega) (fun j a b => by rcases Nat.lt_or_ge m j with h | h; exact hz j (by omega) b; rw [show j = m by omega]; exact h26)
      · refine v_aload_n hX 1 rfl (atL dAX5_trim_0 18 rfl) ?_
        refine v_iload_n hX 0 rfl (atL dAX5_trim_0 19 rfl) ?_
        refine pf_X5_13 hX hi (atL dAX5_trim_0 20 rfl) ?_
        exact v_vret hX (atL dAX5_trim_0 21 rfl) (hret () _ ⟨m + 1, by omega, rfl, fun _ => by rw [show m + 1 - 1 = m by omega]; exact h26, hz⟩)
  refine v_iload_n hX 1 rfl (atL dAX5_trim_0 0 rfl) ?_
  refine v_bipush hX (by decide +kernel) (atL dAX5_trim_0 1 rfl) ?_
  refine v_icmp_ge hX ⟨by omega, by omega⟩ ⟨by omega, by omega⟩ (tgt := 10) (atL dAX5_trim_0 2 rfl) (by decide) (fun h3 => ?_) (fun h3 => ?_)
  · refine v_bipush hX (by decide +kernel) (atL dAX5_trim_0 5 rfl) ?_
    refine v_istore_n hX (i := 2) rfl (lv' := [(2, .int (iI (80))), (0, .ref (w.1 3 i)), (1, .int (iI ((n : Int))))]) (Nat.le_of_ble_eq_true rfl) rfl (atL dAX5_trim_0 6 rfl) ?_
    rw [show (80 : Int) = (n : Int) by omega]
    exact loop n (Nat.le_refl n) (fun j a b => absurd a (by omega))
  · refine v_iload_n hX 1 rfl (atL dAX5_trim_0 3 rfl) ?_
    refine v_goto hX (tgt := 12) (atL dAX5_trim_0 4 rfl) (by decide) ?_
    refine v_istore_n hX (i := 2) rfl (lv' := [(2, .int (iI ((n : Int)))), (0, .ref (w.1 3 i)), (1, .int (iI ((n : Int))))]) (Nat.le_of_ble_eq_true rfl) rfl (atL dAX5_trim_0 6 rfl) ?_
    exact loop n (Nat.le_refl n) (fun j a b => absurd a (by omega))

set_option maxHeartbeats 4000000 in
set_option maxRecDepth 100000 in
theorem c_X5_setSmall (l : Launch) (w : Wl) (σ : St) (i : Nat) (hi : w.2 3 i) (hd : WDg σ i) (x : Nat) (hx : x < 268435456) : Cn l yX5_setSmall cX5_setSmall 3 none 1 22 wN [.ref (w.1 3 i), .long (jI ((x : Int)))] w σ (fun _ σ' => WN σ' i x ∧ Fr [(2, i), (3, i)] σ σ') := by
  refine Cn.of (own := RX5) (lv := [(0, .ref (w.1 3 i)), (1, .long (jI ((x : Int))))]) (by decide +kernel) rfl (Nat.le_of_ble_eq_true rfl) rfl (fun X hX hxl hR hcl hret => ?_)
  subst hxl
  have hi2 : w.2 4 i := hcl 3 i hi (4, i) (by simp [mn, tp])
  refine v_aload_n hX 0 rfl (atL dAX5_setSmall_0 0 rfl) ?_
  refine gf_X5_9 hX hi (atL dAX5_setSmall_0 1 rfl) ?_
  refine v_iconst hX (atL dAX5_setSmall_0 2 rfl) ?_
  refine v_lload_n hX 1 rfl (atL dAX5_setSmall_0 3 rfl) ?_
  refine v_last hX (c := 3) 0 hi2 (by decide) (fun _ _ => rfl) rfl (by decide) (by decide) (atL dAX5_setSmall_0 4 rfl) ?_
  refine v_aload_n hX 0 rfl (atL dAX5_setSmall_0 5 rfl) ?_
  refine v_iconst hX (atL dAX5_setSmall_0 6 rfl) ?_
  refine v_callV hX (As := [.int (iI (1))]) (rest := []) (c_X5_trim (xl X) w (su σ 3 i 0 ((x : Int))) i 1 hi (hd.su ⟨by omega, by omega⟩) (by omega)) lk_X5_29 hi (fun _ => rfl) rfl rfl rfl (by rw [hR]; exact ⟨Nat.le_of_ble_eq_true rfl, Nat.le_of_ble_eq_true rfl⟩) ⟨Nat.zero_le _, Nat.zero_le _⟩ rfl (Nat.le_of_ble_eq_true rfl) (atL dAX5_setSmall_0 7 rfl) (fun _ s1 h1 => ?_)
  obtain ⟨t, h1a, rfl, h1b, h1c⟩ := h1
  show V X _ w _ _ (su (su σ 3 i 0 ((x : Int))) 2 i 0 ((t : Int))) []
  exact v_vret hX (atL dAX5_setSmall_0 8 rfl) (hret () _ ⟨trim_nm (hd.su ⟨by omega, by omega⟩) (by omega) h1a h1b h1c (by rw [vB_1]; show (su σ 3 i 0 (x : Int) 3 i 0).toNat = x; rw [su_s]; omega), (Fr.su (by simp)).tr' (Fr.su (by simp))⟩)

set_option maxHeartbeats 4000000 in
set_option maxRecDepth 100000 in
theorem c_X5_set (l : Launch) (w : Wl) (σ : St) (i : Nat) (hi : w.2 3 i) (hdi : WDg σ i) (o v : Nat) (hj : w.2 3 o) (hM : WN σ o v) (hne : o ≠ i) : Cn l yX5_set cX5_set 4 none 0 0 wN [.ref (w.1 3 i), .ref (w.1 3 o)] w σ (fun _ σ' => WN σ' i v ∧ Fr [(2, i), (3, i)] σ σ') := by
  refine Cn.of (own := RX5) (lv := [(0, .ref (w.1 3 i)), (1, .ref (w.1 3 o))]) (by decide +kernel) rfl (Nat.le_of_ble_eq_true rfl) rfl (fun X hX hxl hR hcl hret => ?_)
  subst hxl
  have hi2 : w.2 4 i := hcl 3 i hi (4, i) (by simp [mn, tp])
  have hj2 : w.2 4 o := hcl 3 o hj (4, o) (by simp [mn, tp])
  obtain ⟨u, hu, hu8, hd, ht, hv⟩ := hM
  have loop : ∀ (n m : Nat) (s : St), m + n = u → WDg s i → (∀ j, j < m → s 3 i j = σ 3 o j) → Fr [(2, i), (3, i)] σ s → V X (0, 0) w 21 [(3, .int (iI ((m : Int)))), (2, .int (iI ((u : Int)))), (0, .ref (w.1 3 i)), (1, .ref (w.1 3 o))] s [] := by
    intro n
    induction n with
    | zero =>
      intro m s hm hds hag hfr
      obtain rfl : m = u := by omega
      refine v_iload_n hX 0 rfl (atL dAX5_set_0 11 rfl) ?_
      refine v_iload_n hX 1 rfl (atL dAX5_set_0 12 rfl) ?_
      refine v_icmp_ge hX ⟨by omega, by omega⟩ ⟨by omega, by omega⟩ (tgt := 44) (atL dAX5_set_0 13 rfl) (by decide) (fun h23 => ?_) (fun h23 => absurd h23 (by omega))
      refine v_aload_n hX 2 rfl (atL dAX5_set_0 24 rfl) ?_
      refine v_iload_n hX 1 rfl (atL dAX5_set_0 25 rfl) ?_
      refine pf_X5_13 hX hi (atL dAX5_set_0 26 rfl) ?_
      exact v_vret hX (atL dAX5_set_0 27 rfl) (hret () _ ⟨⟨m, su_s, hu8, by rw [su_rc (by decide)]; exact hds, fun h0 => by rw [su_rc (by decide), hag (m - 1) (by omega)]; exact ht h0, by rw [su_rc (by decide), ← hv]; exact vB_congr (fun j hj => by show (s 3 i j).toNat = (σ 3 o j).toNat; rw [hag j hj])⟩, hfr.tr' (Fr.su (by simp))⟩)
    | succ n ih =>
      intro m s hm hds hag hfr
      have hdm := hd m
      have hro : s 3 o = σ 3 o := hfr 3 o (by simp [hne])
      refine v_iload_n hX 0 rfl (atL dAX5_set_0 11 rfl) ?_
      refine v_iload_n hX 1 rfl (atL dAX5_set_0 12 rfl) ?_
      refine v_icmp_ge hX ⟨by omega, by omega⟩ ⟨by omega, by omega⟩ (tgt := 44) (atL dAX5_set_0 13 rfl) (by decide) (fun h23 => absurd h23 (by omega)) (fun h23 => ?_)
      refine v_aload_n hX 2 rfl (atL dAX5_set_0 14 rfl) ?_
      refine gf_X5_9 hX hi (atL dAX5_set_0 15 rfl) ?_
      refine v_iload_n hX 0 rfl (atL dAX5_set_0 16 rfl) ?_
      refine v_aload_n hX 3 rfl (atL dAX5_set_0 17 rfl) ?_
      refine gf_X5_9 hX hj (atL dAX5_set_0 18 rfl) ?_
      refine v_iload_n hX 0 rfl (atL dAX5_set_0 19 rfl) ?_
      refine v_lald hX (r := jI (σ 3 o m)) m hj2 (fun _ => rfl) rfl (by omega) (by decide) (congrArg jI (by rw [hro])) (atL dAX5_set_0 20 rfl) ?_
      refine v_last hX (c := 3) m hi2 (by decide) (fun _ _ => rfl) rfl (by omega) (by decide) (atL dAX5_set_0 21 rfl) ?_
      refine v_iinc hX (lv' := [(3, .int (iI (((m : Int)) + 1))), (2, .int (iI ((u : Int)))), (0, .ref (w.1 3 i)), (1, .ref (w.1 3 o))]) 0 rfl (iI_add _ _) (Nat.le_of_ble_eq_true rfl) rfl (atL dAX5_set_0 22 rfl) ?_
      refine v_goto hX (tgt := 21) (atL dAX5_set_0 23 rfl) (by decide) ?_
      refine ih (m + 1) _ (by omega) (hds.su ⟨by omega, by omega⟩) (fun j hj => ?_) (hfr.tr' (Fr.su (by simp)))
      rw [su_e]
      split
      · subst j; rfl
      · exact hag j (by omega)
  refine v_aload_n hX 1 rfl (atL dAX5_set_0 0 rfl) ?_
  refine gf_X5_13 hX (v := (u : Int)) (hu) hj (atL dAX5_set_0 1 rfl) ?_
  refine v_bipush hX (by decide +kernel) (atL dAX5_set_0 2 rfl) ?_
  refine v_icmp_ge hX ⟨by omega, by omega⟩ ⟨by omega, by omega⟩ (tgt := 16) (atL dAX5_set_0 3 rfl) (by decide) (fun h6 => ?_) (fun h6 => ?_)
  · refine v_bipush hX (by decide +kernel) (atL dAX5_set_0 7 rfl) ?_
    refine v_istore_n hX (i := 2) rfl (lv' := [(2, .int (iI (80))), (0, .ref (w.1 3 i)), (1, .ref (w.1 3 o))]) (Nat.le_of_ble_eq_true rfl) rfl (atL dAX5_set_0 8 rfl) ?_
    refine v_iconst hX (atL dAX5_set_0 9 rfl) ?_
    refine v_istore_n hX (i := 3) rfl (lv' := [(3, .int (iI (0))), (2, .int (iI (80))), (0, .ref (w.1 3 i)), (1, .ref (w.1 3 o))]) (Nat.le_of_ble_eq_true rfl) rfl (atL dAX5_set_0 10 rfl) ?_
    rw [show (80 : Int) = (u : Int) by omega]
    exact loop u 0 σ (by omega) hdi (fun j hj => absurd hj (Nat.not_lt_zero j)) Fr.rf
  · refine v_aload_n hX 1 rfl (atL dAX5_set_0 4 rfl) ?_
    refine gf_X5_13 hX (v := (u : Int)) (hu) hj (atL dAX5_set_0 5 rfl) ?_
    refine v_goto hX (tgt := 18) (atL dAX5_set_0 6 rfl) (by decide) ?_
    refine v_istore_n hX (i := 2) rfl (lv' := [(2, .int (iI ((u : Int)))), (0, .ref (w.1 3 i)), (1, .ref (w.1 3 o))]) (Nat.le_of_ble_eq_true rfl) rfl (atL dAX5_set_0 8 rfl) ?_
    refine v_iconst hX (atL dAX5_set_0 9 rfl) ?_
    refine v_istore_n hX (i := 3) rfl (lv' := [(3, .int (iI (0))), (2, .int (iI ((u : Int)))), (0, .ref (w.1 3 i)), (1, .ref (w.1 3 o))]) (Nat.le_of_ble_eq_true rfl) rfl (atL dAX5_set_0 10 rfl) ?_
    exact loop u 0 σ (by omega) hdi (fun j hj => absurd hj (Nat.not_lt_zero j)) Fr.rf
