set_option maxHeartbeats 4000000 in
set_option maxRecDepth 100000 in
theorem c_X5_setSum (l : Launch) (w : Wl) (σ : St) (i : Nat) (hi : w.2 3 i) (hdi : WDg σ i) (o v : Nat) (ho : w.2 3 o) (hM : WN σ o v) (r y : Nat) (hr : w.2 3 r) (hK : WN σ r y) (hv7 : v < 268435456 ^ 79) (hy7 : y < 268435456 ^ 79) : Cn l yX5_setSum cX5_setSum 9 none 1 22 wN [.ref (w.1 3 i), .ref (w.1 3 o), .ref (w.1 3 r)] w σ (fun _ σ' => WN σ' i (v + y) ∧ Fr [(2, i), (3, i)] σ σ') := by
  refine Cn.of (own := RX5) (lv := [(0, .ref (w.1 3 i)), (1, .ref (w.1 3 o)), (2, .ref (w.1 3 r))]) (by decide +kernel) rfl (Nat.le_of_ble_eq_true rfl) rfl (fun X hX hxl hR hcl hret => ?_)
  subst hxl
  have hi2 : w.2 4 i := hcl 3 i hi (4, i) (by simp [mn, tp])
  obtain ⟨u, hu, hu8, hd, ht, hv⟩ := hM
  obtain ⟨x, hx, hx8, he, hxt, hy⟩ := hK
  have hu7 := used_le hd ht hv hv7
  have hx7 := used_le he hxt hy hy7
  have loop : ∀ (n : Nat), n ≤ 79 → u ≤ n → x ≤ n → ∀ (d m : Nat) (c : Int) (s : St), m + d = n → 0 ≤ c → c ≤ 1 → WDg s i → Fr [(2, i), (3, i)] σ s → s 2 = σ 2 → (∀ j, m ≤ j → s 3 i j = σ 3 i j) → ((vB 268435456 (fW s i) m : Nat) : Int) + c * ((268435456 ^ m : Nat) : Int) = ((vB 268435456 (dgt v) m : Nat) : Int) + ((vB 268435456 (dgt y) m : Nat) : Int) → V X (0, 0) w 29 [(6, .int (iI ((m : Int)))), (4, .long (jI (c))), (3, .int (iI ((n : Int)))), (0, .ref (w.1 3 i)), (1, .ref (w.1 3 o)), (2, .ref (w.1 3 r))] s [] := by
    intro n hn hun hxn d
    induction d with
    | zero =>
      intro m c s hm hc0 hc1 hds hfr h2 hag hval
      obtain rfl : m = n := by omega
      refine v_iload hX 0 rfl (atL dAX5_setSum_0 15 rfl) ?_
      refine v_iload_n hX 2 rfl (atL dAX5_setSum_0 16 rfl) ?_
      refine v_icmp_ge hX ⟨by omega, by omega⟩ ⟨by omega, by omega⟩ (tgt := 79) (atL dAX5_setSum_0 17 rfl) (by decide) (fun h32 => ?_) (fun h32 => absurd h32 (by omega))
      refine v_iload_n hX 2 rfl (atL dAX5_setSum_0 41 rfl) ?_
      refine v_bipush hX (by decide +kernel) (atL dAX5_setSum_0 42 rfl) ?_
      refine v_icmp_ge hX ⟨by omega, by omega⟩ ⟨by omega, by omega⟩ (tgt := 93) (atL dAX5_setSum_0 43 rfl) (by decide) (fun h82 => absurd h82 (by omega)) (fun h82 => ?_)
      refine v_aload_n hX 3 rfl (atL dAX5_setSum_0 44 rfl) ?_
      refine gf_X5_9 hX hi (atL dAX5_setSum_0 45 rfl) ?_
      refine v_iload_n hX 2 rfl (atL dAX5_setSum_0 46 rfl) ?_
      refine v_lload hX 1 rfl (atL dAX5_setSum_0 47 rfl) ?_
      refine v_last hX (c := 3) m hi2 (by decide) (fun _ _ => rfl) rfl (by omega) (by decide) (atL dAX5_setSum_0 48 rfl) ?_
      refine v_aload_n hX 3 rfl (atL dAX5_setSum_0 49 rfl) ?_
      refine v_iload_n hX 2 rfl (atL dAX5_setSum_0 50 rfl) ?_
      refine v_iconst hX (atL dAX5_setSum_0 51 rfl) ?_
      refine v_iadd hX (iI_add _ _) (atL dAX5_setSum_0 52 rfl) ?_
      refine v_callV hX (As := [.int (iI (((m : Int)) + 1))]) (rest := []) (c_X5_trim (xl X) w (su s 3 i m c) i (m + 1) hi (hds.su ⟨by omega, by omega⟩) (by omega)) lk_X5_29 hi (fun _ => rfl) rfl rfl rfl (by rw [hR]; exact ⟨Nat.le_of_ble_eq_true rfl, Nat.le_of_ble_eq_true rfl⟩) ⟨Nat.zero_le _, Nat.zero_le _⟩ rfl (Nat.le_of_ble_eq_true rfl) (atL dAX5_setSum_0 53 rfl) (fun _ s1 h1 => ?_)
      obtain ⟨t, h1a, rfl, h1b, h1c⟩ := h1
      show V X _ w _ _ (su (su s 3 i m c) 2 i 0 ((t : Int))) []
      have hfin : vB 268435456 (fW (su s 3 i m c) i) (m + 1) = v + y := by
        have e := vB_suS (σ := s) (i := i) (m := m) hc0
        rw [dgt_vB, dgt_vB, Nat.mod_eq_of_lt (used_lt_pow hd hv hun), Nat.mod_eq_of_lt (used_lt_pow he hy hxn)] at hval
        omega
      exact v_vret hX (atL dAX5_setSum_0 54 rfl) (hret () _ ⟨trim_nm (hds.su ⟨by omega, by omega⟩) (by omega) h1a h1b h1c hfin, (hfr.tr' (Fr.su (by simp))).tr' (Fr.su (by simp))⟩)
    | succ d ih =>
      intro m c s hm hc0 hc1 hds hfr h2 hag hval
      have hro : s 3 o m = σ 3 o m := by by_cases e : o = i; rw [e]; exact hag m (Nat.le_refl m); rw [hfr 3 o (by simp [e])]
      have hrr : s 3 r m = σ 3 r m := by by_cases e : r = i; rw [e]; exact hag m (Nat.le_refl m); rw [hfr 3 r (by simp [e])]
      refine v_iload hX 0 rfl (atL dAX5_setSum_0 15 rfl) ?_
      refine v_iload_n hX 2 rfl (atL dAX5_setSum_0 16 rfl) ?_
      refine v_icmp_ge hX ⟨by omega, by omega⟩ ⟨by omega, by omega⟩ (tgt := 79) (atL dAX5_setSum_0 17 rfl) (by decide) (fun h32 => absurd h32 (by omega)) (fun h32 => ?_)
      refine v_aload_n hX 4 rfl (atL dAX5_setSum_0 18 rfl) ?_
      refine v_iload hX 0 rfl (atL dAX5_setSum_0 19 rfl) ?_
      refine v_callV hX (As := [.int (iI ((m : Int)))]) (rest := []) (c_X5_limbAt (xl X) w s o u ho (by rw [h2]; exact hu) hu8 ((m : Int)) ⟨by omega, by omega⟩) lk_X5_17 ho (fun _ => rfl) rfl rfl rfl (by rw [hR]; exact ⟨Nat.le_of_ble_eq_true rfl, Nat.le_of_ble_eq_true rfl⟩) ⟨Nat.zero_le _, Nat.zero_le _⟩ rfl (Nat.le_of_ble_eq_true rfl) (atL dAX5_setSum_0 20 rfl) (fun ra sra hra => ?_)
      obtain ⟨hraa, hsra⟩ := hra
      rw [hsra]
      have hrab : ra = (dgt v (m) : Int) := by rw [← dgt_WN hd hv (m), hraa, show ((m : Int) : Int).toNat = m by omega, hro]; split <;> split <;> first | rfl | omega
      subst hrab
      have hrac := dgt_lt v (m)
      show V X _ w _ _ s [.long (jI ((dgt v m : Int)))]
      refine v_aload_n hX 5 rfl (atL dAX5_setSum_0 21 rfl) ?_
      refine v_iload hX 0 rfl (atL dAX5_setSum_0 22 rfl) ?_
      refine v_callV hX (As := [.int (iI ((m : Int)))]) (rest := [.long (jI ((dgt v m : Int)))]) (c_X5_limbAt (xl X) w s r x hr (by rw [h2]; exact hx) hx8 ((m : Int)) ⟨by omega, by omega⟩) lk_X5_17 hr (fun _ => rfl) rfl rfl rfl (by rw [hR]; exact ⟨Nat.le_of_ble_eq_true rfl, Nat.le_of_ble_eq_true rfl⟩) ⟨Nat.zero_le _, Nat.zero_le _⟩ rfl (Nat.le_of_ble_eq_true rfl) (atL dAX5_setSum_0 23 rfl) (fun rb srb hrb => ?_)
      obtain ⟨hrba, hsrb⟩ := hrb
      rw [hsrb]
      have hrbb : rb = (dgt y (m) : Int) := by rw [← dgt_WN he hy (m), hrba, show ((m : Int) : Int).toNat = m by omega, hrr]; split <;> split <;> first | rfl | omega
      subst hrbb
      have hrbc := dgt_lt y (m)
      show V X _ w _ _ s [.long (jI ((dgt y m : Int))), .long (jI ((dgt v m : Int)))]
      refine v_ladd hX (jI_add _ _) (atL dAX5_setSum_0 24 rfl) ?_
      refine v_lload hX 1 rfl (atL dAX5_setSum_0 25 rfl) ?_
      refine v_ladd hX (jI_add _ _) (atL dAX5_setSum_0 26 rfl) ?_
      refine v_lstore hX (lv' := [(7, .long (jI ((((dgt v m : Int)) + ((dgt y m : Int))) + c))), (6, .int (iI ((m : Int)))), (4, .long (jI (c))), (3, .int (iI ((n : Int)))), (0, .ref (w.1 3 i)), (1, .ref (w.1 3 o)), (2, .ref (w.1 3 r))]) (Nat.le_of_ble_eq_true rfl) rfl (atL dAX5_setSum_0 27 rfl) ?_
      refine v_aload_n hX 4 rfl (atL dAX5_setSum_0 28 rfl) ?_
      refine gf_X5_9 hX hi (atL dAX5_setSum_0 29 rfl) ?_
      refine v_iload hX 1 rfl (atL dAX5_setSum_0 30 rfl) ?_
      refine v_lload hX 0 rfl (atL dAX5_setSum_0 31 rfl) ?_
      refine v_ldc2 hX (r := 268435455) wd_413 (by decide +kernel) (atL dAX5_setSum_0 32 rfl) ?_
      refine v_land hX (r := jI (((((dgt v m : Int)) + ((dgt y m : Int))) + c) % 268435456)) (jI_mask _ 28 (by decide)) (atL dAX5_setSum_0 33 rfl) ?_
      refine v_last hX (c := 3) m hi2 (by decide) (fun _ _ => rfl) rfl (by omega) (by decide) (atL dAX5_setSum_0 34 rfl) ?_
      refine v_lload hX 0 rfl (atL dAX5_setSum_0 35 rfl) ?_
      refine v_bipush hX (by decide +kernel) (atL dAX5_setSum_0 36 rfl) ?_
      refine v_lshr hX (r := jI (((((dgt v m : Int)) + ((dgt y m : Int))) + c) / 268435456)) (jI_shr ⟨by omega, by omega⟩ 28 (by decide)) (atL dAX5_setSum_0 37 rfl) ?_
      refine v_lstore hX (lv' := [(4, .long (jI (((((dgt v m : Int)) + ((dgt y m : Int))) + c) / 268435456))), (7, .long (jI ((((dgt v m : Int)) + ((dgt y m : Int))) + c))), (6, .int (iI ((m : Int)))), (3, .int (iI ((n : Int)))), (0, .ref (w.1 3 i)), (1, .ref (w.1 3 o)), (2, .ref (w.1 3 r))]) (Nat.le_of_ble_eq_true rfl) rfl (atL dAX5_setSum_0 38 rfl) ?_
      refine v_iinc hX (lv' := [(6, .int (iI (((m : Int)) + 1))), (4, .long (jI (((((dgt v m : Int)) + ((dgt y m : Int))) + c) / 268435456))), (7, .long (jI ((((dgt v m : Int)) + ((dgt y m : Int))) + c))), (3, .int (iI ((n : Int)))), (0, .ref (w.1 3 i)), (1, .ref (w.1 3 o)), (2, .ref (w.1 3 r))]) 2 rfl (iI_add _ _) (Nat.le_of_ble_eq_true rfl) rfl (atL dAX5_setSum_0 39 rfl) ?_
      refine v_goto hX (tgt := 29) (atL dAX5_setSum_0 40 rfl) (by decide) ?_
      refine v_sub (lv' := [(6, .int (iI (((m : Int)) + 1))), (4, .long (jI (((((dgt v m : Int)) + ((dgt y m : Int))) + c) / 268435456))), (3, .int (iI ((n : Int)))), (0, .ref (w.1 3 i)), (1, .ref (w.1 3 o)), (2, .ref (w.1 3 r))]) [0, 1, 3, 4, 5, 6] rfl ?_
      refine ih (m + 1) _ _ (by omega) (by omega) (by omega) (hds.su ⟨by omega, by omega⟩) (hfr.tr' (Fr.su (by simp))) ((su_rc (by decide)).trans h2) (fun j hj => by rw [su_j (by omega)]; exact hag j (by omega)) ?_
      rw [vB_suS (by omega), dgt_suc, dgt_suc, pS]
      have e := carry_I (B := 268435456) (s := (dgt v m : Int) + (dgt y m : Int) + c) (d := (dgt v m : Int) + (dgt y m : Int)) (r := ((dgt v m : Int) + (dgt y m : Int) + c) % 268435456) (q := ((dgt v m : Int) + (dgt y m : Int) + c) / 268435456) hval rfl (by omega)
      rw [Int.add_mul] at e
      omega
  refine v_aload_n hX 1 rfl (atL dAX5_setSum_0 0 rfl) ?_
  refine gf_X5_13 hX (v := (u : Int)) (hu) ho (atL dAX5_setSum_0 1 rfl) ?_
  refine v_aload_n hX 2 rfl (atL dAX5_setSum_0 2 rfl) ?_
  refine gf_X5_13 hX (v := (x : Int)) (hx) hr (atL dAX5_setSum_0 3 rfl) ?_
  refine v_icmp_le hX ⟨by omega, by omega⟩ ⟨by omega, by omega⟩ (tgt := 18) (atL dAX5_setSum_0 4 rfl) (by decide) (fun h8 => ?_) (fun h8 => ?_)
  · refine v_aload_n hX 2 rfl (atL dAX5_setSum_0 8 rfl) ?_
    refine gf_X5_13 hX (v := (x : Int)) (hx) hr (atL dAX5_setSum_0 9 rfl) ?_
    refine v_istore_n hX (i := 3) rfl (lv' := [(3, .int (iI ((x : Int)))), (0, .ref (w.1 3 i)), (1, .ref (w.1 3 o)), (2, .ref (w.1 3 r))]) (Nat.le_of_ble_eq_true rfl) rfl (atL dAX5_setSum_0 10 rfl) ?_
    refine v_lconst hX (atL dAX5_setSum_0 11 rfl) ?_
    show V X _ w _ _ _ (.long (jI (0)) :: _)
    refine v_lstore hX (lv' := [(4, .long (jI (0))), (3, .int (iI ((x : Int)))), (0, .ref (w.1 3 i)), (1, .ref (w.1 3 o)), (2, .ref (w.1 3 r))]) (Nat.le_of_ble_eq_true rfl) rfl (atL dAX5_setSum_0 12 rfl) ?_
    refine v_iconst hX (atL dAX5_setSum_0 13 rfl) ?_
    refine v_istore hX (lv' := [(6, .int (iI (0))), (4, .long (jI (0))), (3, .int (iI ((x : Int)))), (0, .ref (w.1 3 i)), (1, .ref (w.1 3 o)), (2, .ref (w.1 3 r))]) (Nat.le_of_ble_eq_true rfl) rfl (atL dAX5_setSum_0 14 rfl) ?_
    exact loop x (by omega) (by omega) (by omega) x 0 0 σ (by omega) (by omega) (by omega) hdi Fr.rf rfl (fun j _ => rfl) rfl
  · refine v_aload_n hX 1 rfl (atL dAX5_setSum_0 5 rfl) ?_
    refine gf_X5_13 hX (v := (u : Int)) (hu) ho (atL dAX5_setSum_0 6 rfl) ?_
    refine v_goto hX (tgt := 22) (atL dAX5_setSum_0 7 rfl) (by decide) ?_
    refine v_istore_n hX (i := 3) rfl (lv' := [(3, .int (iI ((u : Int)))), (0, .ref (w.1 3 i)), (1, .ref (w.1 3 o)), (2, .ref (w.1 3 r))]) (Nat.le_of_ble_eq_true rfl) rfl (atL dAX5_setSum_0 10 rfl) ?_
    refine v_lconst hX (atL dAX5_setSum_0 11 rfl) ?_
    show V X _ w _ _ _ (.long (jI (0)) :: _)
    refine v_lstore hX (lv' := [(4, .long (jI (0))), (3, .int (iI ((u : Int)))), (0, .ref (w.1 3 i)), (1, .ref (w.1 3 o)), (2, .ref (w.1 3 r))]) (Nat.le_of_ble_eq_true rfl) rfl (atL dAX5_setSum_0 12 rfl) ?_
    refine v_iconst hX (atL dAX5_setSum_0 13 rfl) ?_
    refine v_istore hX (lv' := [(6, .int (iI (0))), (4, .long (jI (0))), (3, .int (iI ((u : Int)))), (0, .ref (w.1 3 i)), (1, .ref (w.1 3 o)), (2, .ref (w.1 3 r))]) (Nat.le_of_ble_eq_true rfl) rfl (atL dAX5_setSum_0 14 rfl) ?_
    exact loop u (by omega) (by omega) (by omega) u 0 0 σ (by omega) (by omega) (by omega) hdi Fr.rf rfl (fun j _ => rfl) rfl
