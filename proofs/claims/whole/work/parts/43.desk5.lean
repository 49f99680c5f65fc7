set_option maxHeartbeats 1000000 in
set_option maxRecDepth 100000 in
theorem c_X0_findDivisor (l : Launch) (w : Wl) (σ : St) (hk0 : w.2 7 0) (o v : Nat) (ho : w.2 3 o) (hA : WN σ o v) (hv2 : v < 2 ^ 2048) (ho13 : o ≠ 13) (b m : Nat) (hb : w.2 3 b) (hM : WN σ b m) (hm2 : m < 2 ^ 2048) (hb13 : b ≠ 13) (hb14 : b ≠ 14) (r : Nat) (hr : w.2 3 r) (hdr : WDg σ r) (hr7 : r ≠ 7) (hr8 : r ≠ 8) (hr9 : r ≠ 9) (hr13 : r ≠ 13) (hr14 : r ≠ 14) (d7 : WDg σ 7) (d8 : WDg σ 8) (d9 : WDg σ 9) (d13 : WDg σ 13) (d14 : WDg σ 14) (d15 : WDg σ 15) : Cn l yX0_findDivisor cX0_findDivisor 5 none 3 87 wN [.ref (w.1 7 0), .ref (w.1 3 o), .ref (w.1 3 b), .ref (w.1 3 r)] w σ (fun _ σ' => WN σ' r (Nat.gcd v m) ∧ WDg σ' 7 ∧ WDg σ' 8 ∧ WDg σ' 9 ∧ WDg σ' 13 ∧ WDg σ' 14 ∧ WDg σ' 15 ∧ Fr [(8, 0), (2, 7), (3, 7), (2, 8), (3, 8), (2, 9), (3, 9), (2, 13), (3, 13), (2, 14), (3, 14), (2, 15), (3, 15), (2, r), (3, r)] σ σ') := by
  refine Cn.of (own := RX0) (lv := [(0, .ref (w.1 7 0)), (1, .ref (w.1 3 o)), (2, .ref (w.1 3 b)), (3, .ref (w.1 3 r))]) (by decide +kernel) rfl (Nat.le_of_ble_eq_true rfl) rfl (fun X hX hxl hR hcl hret => ?_)
  subst hxl
  have hD3 : ∀ q, (3, q) ∈ mn σ 7 0 → w.2 3 q := fun q h => hcl 7 0 hk0 (3, q) h
  have loop : ∀ (d k x y : Nat) (s : St), k + d = 4096 → x < 2 ^ 2048 → y < 2 ^ 2048 → eu k x y → Nat.gcd x y = Nat.gcd v m → WN s 13 x → WN s 14 y → WDg s 15 → WDg s 7 → WDg s 8 → WDg s 9 → Fr [(8, 0), (2, 7), (3, 7), (2, 8), (3, 8), (2, 9), (3, 9), (2, 13), (3, 13), (2, 14), (3, 14), (2, 15), (3, 15)] σ s → V X (0, 0) w 19 [(4, .int (iI ((k : Int)))), (0, .ref (w.1 7 0)), (1, .ref (w.1 3 o)), (2, .ref (w.1 3 b)), (3, .ref (w.1 3 r))] s [] := by
    intro d
    induction d with
    | zero =>
      intro k x y s hk hx hy he hg w13 w14 d15 d7 d8 d9 hfr
      obtain rfl : k = 4096 := by omega
      refine v_iload hX 0 rfl (atL dAX0_findDivisor_0 10 rfl) ?_
      refine v_sipush hX (by decide +kernel) (atL dAX0_findDivisor_0 11 rfl) ?_
      refine v_icmp_ge hX ⟨by omega, by omega⟩ ⟨by omega, by omega⟩ (tgt := 81) (atL dAX0_findDivisor_0 12 rfl) (by decide) (fun h24 => ?_) (fun h24 => absurd h24 (by omega))
      refine v_aload_n hX 4 rfl (atL dAX0_findDivisor_0 37 rfl) ?_
      refine v_aload_n hX 1 rfl (atL dAX0_findDivisor_0 38 rfl) ?_
      refine gf_X0_37 hX hk0 (atL dAX0_findDivisor_0 39 rfl) ?_
      refine v_callV hX (As := [.ref (w.1 3 13)]) (rest := []) (c_X5_set (xl X) w s r hr (by by_cases e15 : r = 15; rw [e15]; exact d15; exact hdr.fr hfr (by simp; omega)) 13 x (hD3 13 (by simp [mn, tp])) w13 (Ne.symm hr13)) lk_X0_121 hr (fun _ => rfl) rfl rfl rfl (by rw [hR]; exact ⟨Nat.le_of_ble_eq_true rfl, Nat.le_of_ble_eq_true rfl⟩) ⟨Nat.zero_le _, Nat.zero_le _⟩ rfl (Nat.le_of_ble_eq_true rfl) (atL dAX0_findDivisor_0 40 rfl) (fun _ s9 h9 => ?_)
      obtain ⟨h9a, h9b⟩ := h9
      show V X _ w _ _ s9 []
      have e : Nat.gcd v m = x := by rw [← hg, eu_end he]; exact Nat.gcd_zero_right x
      exact v_vret hX (atL dAX0_findDivisor_0 41 rfl) (hret () _ ⟨by rw [e]; exact h9a, d7.fr h9b (by simp; omega), d8.fr h9b (by simp; omega), d9.fr h9b (by simp; omega), w13.dg.fr h9b (by simp; omega), w14.dg.fr h9b (by simp; omega), (by by_cases e15 : r = 15; subst e15; exact WN.dg h9a; exact d15.fr h9b (by simp; omega)), (hfr.mono (by simp)).tr' (h9b.mono (by simp))⟩)
    | succ d ih =>
      intro k x y s hk hx hy he hg w13 w14 d15 d7 d8 d9 hfr
      refine v_iload hX 0 rfl (atL dAX0_findDivisor_0 10 rfl) ?_
      refine v_sipush hX (by decide +kernel) (atL dAX0_findDivisor_0 11 rfl) ?_
      refine v_icmp_ge hX ⟨by omega, by omega⟩ ⟨by omega, by omega⟩ (tgt := 81) (atL dAX0_findDivisor_0 12 rfl) (by decide) (fun h24 => absurd h24 (by omega)) (fun h24 => ?_)
      refine v_aload_n hX 1 rfl (atL dAX0_findDivisor_0 13 rfl) ?_
      refine gf_X0_40 hX hk0 (atL dAX0_findDivisor_0 14 rfl) ?_
      refine v_callV hX (As := []) (rest := []) (c_X5_isZero (xl X) w s 14 y (hD3 14 (by simp [mn, tp])) w14) lk_X0_124 (hD3 14 (by simp [mn, tp])) (fun _ => rfl) rfl rfl rfl (by rw [hR]; exact ⟨Nat.le_of_ble_eq_true rfl, Nat.le_of_ble_eq_true rfl⟩) ⟨Nat.zero_le _, Nat.zero_le _⟩ rfl (Nat.le_of_ble_eq_true rfl) (atL dAX0_findDivisor_0 15 rfl) (fun rz sz hz => ?_)
      obtain ⟨hz1, hz2⟩ := hz
      rw [hz2]
      show V X _ w _ _ s [.int (iI (rz))]
      refine v_if_ne hX ⟨by split at hz1 <;> omega, by split at hz1 <;> omega⟩ (tgt := 81) (atL dAX0_findDivisor_0 16 rfl) (by decide) (fun h34 => ?_) (fun h34 => ?_)
      · have hy0 : y = 0 := by split at hz1 <;> omega
        refine v_aload_n hX 4 rfl (atL dAX0_findDivisor_0 37 rfl) ?_
        refine v_aload_n hX 1 rfl (atL dAX0_findDivisor_0 38 rfl) ?_
        refine gf_X0_37 hX hk0 (atL dAX0_findDivisor_0 39 rfl) ?_
        refine v_callV hX (As := [.ref (w.1 3 13)]) (rest := []) (c_X5_set (xl X) w s r hr (by by_cases e15 : r = 15; rw [e15]; exact d15; exact hdr.fr hfr (by simp; omega)) 13 x (hD3 13 (by simp [mn, tp])) w13 (Ne.symm hr13)) lk_X0_121 hr (fun _ => rfl) rfl rfl rfl (by rw [hR]; exact ⟨Nat.le_of_ble_eq_true rfl, Nat.le_of_ble_eq_true rfl⟩) ⟨Nat.zero_le _, Nat.zero_le _⟩ rfl (Nat.le_of_ble_eq_true rfl) (atL dAX0_findDivisor_0 40 rfl) (fun _ s9 h9 => ?_)
        obtain ⟨h9a, h9b⟩ := h9
        show V X _ w _ _ s9 []
        have e : Nat.gcd v m = x := by rw [← hg, hy0]; exact Nat.gcd_zero_right x
        exact v_vret hX (atL dAX0_findDivisor_0 41 rfl) (hret () _ ⟨by rw [e]; exact h9a, d7.fr h9b (by simp; omega), d8.fr h9b (by simp; omega), d9.fr h9b (by simp; omega), w13.dg.fr h9b (by simp; omega), w14.dg.fr h9b (by simp; omega), (by by_cases e15 : r = 15; subst e15; exact WN.dg h9a; exact d15.fr h9b (by simp; omega)), (hfr.mono (by simp)).tr' (h9b.mono (by simp))⟩)
      · have hyp : 0 < y := by split at hz1 <;> omega
        refine v_aload_n hX 1 rfl (atL dAX0_findDivisor_0 17 rfl) ?_
        refine v_aload_n hX 1 rfl (atL dAX0_findDivisor_0 18 rfl) ?_
        refine gf_X0_37 hX hk0 (atL dAX0_findDivisor_0 19 rfl) ?_
        refine v_aload_n hX 1 rfl (atL dAX0_findDivisor_0 20 rfl) ?_
        refine gf_X0_40 hX hk0 (atL dAX0_findDivisor_0 21 rfl) ?_
        refine v_aload_n hX 1 rfl (atL dAX0_findDivisor_0 22 rfl) ?_
        refine gf_X0_43 hX hk0 (atL dAX0_findDivisor_0 23 rfl) ?_
        refine v_callV hX (As := [.ref (w.1 3 13), .ref (w.1 3 14), .ref (w.1 3 15)]) (rest := []) (c_X0_divide (xl X) w s hk0 13 x (hD3 13 (by simp [mn, tp])) w13 (p2048 hx) (by decide) 14 y (hD3 14 (by simp [mn, tp])) w14 (by omega) (p2048 hy) 15 (hD3 15 (by simp [mn, tp])) d15 (by decide) (by decide) (by decide) d8 d9 d7) lk_X0_128 hk0 (fun _ => rfl) rfl rfl rfl (by rw [hR]; exact ⟨Nat.le_of_ble_eq_true rfl, Nat.le_of_ble_eq_true rfl⟩) ⟨Nat.zero_le _, Nat.zero_le _⟩ rfl (Nat.le_of_ble_eq_true rfl) (atL dAX0_findDivisor_0 24 rfl) (fun _ s1 h1 => ?_)
        obtain ⟨h1r, h1q, h18, h19, h1f⟩ := h1
        have a13 := w13.fr h1f (by simp) (by simp)
        have a14 := w14.fr h1f (by simp) (by simp)
        show V X _ w _ _ s1 []
        refine v_aload_n hX 1 rfl (atL dAX0_findDivisor_0 25 rfl) ?_
        refine gf_X0_37 hX hk0 (atL dAX0_findDivisor_0 26 rfl) ?_
        refine v_aload_n hX 1 rfl (atL dAX0_findDivisor_0 27 rfl) ?_
        refine gf_X0_40 hX hk0 (atL dAX0_findDivisor_0 28 rfl) ?_
        refine v_callV hX (As := [.ref (w.1 3 14)]) (rest := []) (c_X5_set (xl X) w s1 13 (hD3 13 (by simp [mn, tp])) (WN.dg a13) 14 y (hD3 14 (by simp [mn, tp])) a14 (by decide)) lk_X0_121 (hD3 13 (by simp [mn, tp])) (fun _ => rfl) rfl rfl rfl (by rw [hR]; exact ⟨Nat.le_of_ble_eq_true rfl, Nat.le_of_ble_eq_true rfl⟩) ⟨Nat.zero_le _, Nat.zero_le _⟩ rfl (Nat.le_of_ble_eq_true rfl) (atL dAX0_findDivisor_0 29 rfl) (fun _ s2 h2 => ?_)
        obtain ⟨h2a, h2f⟩ := h2
        show V X _ w _ _ s2 []
        refine v_aload_n hX 1 rfl (atL dAX0_findDivisor_0 30 rfl) ?_
        refine gf_X0_40 hX hk0 (atL dAX0_findDivisor_0 31 rfl) ?_
        refine v_aload_n hX 1 rfl (atL dAX0_findDivisor_0 32 rfl) ?_
        refine gf_X0_43 hX hk0 (atL dAX0_findDivisor_0 33 rfl) ?_
        refine v_callV hX (As := [.ref (w.1 3 15)]) (rest := []) (c_X5_set (xl X) w s2 14 (hD3 14 (by simp [mn, tp])) ((WN.dg a14).fr h2f (by simp)) 15 (x % y) (hD3 15 (by simp [mn, tp])) (h1r.fr h2f (by simp) (by simp)) (by decide)) lk_X0_121 (hD3 14 (by simp [mn, tp])) (fun _ => rfl) rfl rfl rfl (by rw [hR]; exact ⟨Nat.le_of_ble_eq_true rfl, Nat.le_of_ble_eq_true rfl⟩) ⟨Nat.zero_le _, Nat.zero_le _⟩ rfl (Nat.le_of_ble_eq_true rfl) (atL dAX0_findDivisor_0 34 rfl) (fun _ s3 h3 => ?_)
        obtain ⟨h3a, h3f⟩ := h3
        show V X _ w _ _ s3 []
        refine v_iinc hX (lv' := [(4, .int (iI (((k : Int)) + 1))), (0, .ref (w.1 7 0)), (1, .ref (w.1 3 o)), (2, .ref (w.1 3 b)), (3, .ref (w.1 3 r))]) 0 rfl (iI_add _ _) (Nat.le_of_ble_eq_true rfl) rfl (atL dAX0_findDivisor_0 35 rfl) ?_
        refine v_goto hX (tgt := 19) (atL dAX0_findDivisor_0 36 rfl) (by decide) ?_
        refine v_sub (lv' := [(4, .int (iI (((k : Int)) + 1))), (0, .ref (w.1 7 0)), (1, .ref (w.1 3 o)), (2, .ref (w.1 3 b)), (3, .ref (w.1 3 r))]) [0, 1, 2, 3, 4] rfl ?_
        rw [show (k : Int) + 1 = ((k + 1 : Nat) : Int) by omega]
        have hr1 := Nat.mod_lt x hyp
        exact ih (k + 1) y (x % y) s3 (by omega) hy (by omega) (eu_s hyp (by omega) he) (by rw [← hg, Nat.gcd_comm x y, Nat.gcd_rec y x, Nat.gcd_comm]) (h2a.fr h3f (by simp) (by simp)) h3a ((h1r.dg.fr h2f (by simp)).fr h3f (by simp)) ((h1q.dg.fr h2f (by simp)).fr h3f (by simp)) ((h18.fr h2f (by simp)).fr h3f (by simp)) ((h19.fr h2f (by simp)).fr h3f (by simp)) (((hfr.tr' (h1f.mono (by simp))).tr' (h2f.mono (by simp))).tr' (h3f.mono (by simp)))
  refine v_aload_n hX 0 rfl (atL dAX0_findDivisor_0 0 rfl) ?_
  refine gf_X0_37 hX hk0 (atL dAX0_findDivisor_0 1 rfl) ?_
  refine v_aload_n hX 1 rfl (atL dAX0_findDivisor_0 2 rfl) ?_
  refine v_callV hX (As := [.ref (w.1 3 o)]) (rest := []) (c_X5_set (xl X) w σ 13 (hD3 13 (by simp [mn, tp])) d13 o v ho hA ho13) lk_X0_121 (hD3 13 (by simp [mn, tp])) (fun _ => rfl) rfl rfl rfl (by rw [hR]; exact ⟨Nat.le_of_ble_eq_true rfl, Nat.le_of_ble_eq_true rfl⟩) ⟨Nat.zero_le _, Nat.zero_le _⟩ rfl (Nat.le_of_ble_eq_true rfl) (atL dAX0_findDivisor_0 3 rfl) (fun _ s1 h1 => ?_)
  obtain ⟨h1a, h1f⟩ := h1
  show V X _ w _ _ s1 []
  refine v_aload_n hX 0 rfl (atL dAX0_findDivisor_0 4 rfl) ?_
  refine gf_X0_40 hX hk0 (atL dAX0_findDivisor_0 5 rfl) ?_
  refine v_aload_n hX 2 rfl (atL dAX0_findDivisor_0 6 rfl) ?_
  refine v_callV hX (As := [.ref (w.1 3 b)]) (rest := []) (c_X5_set (xl X) w s1 14 (hD3 14 (by simp [mn, tp])) (d14.fr h1f (by simp)) b m hb (hM.fr h1f (by simp; omega) (by simp; omega)) hb14) lk_X0_121 (hD3 14 (by simp [mn, tp])) (fun _ => rfl) rfl rfl rfl (by rw [hR]; exact ⟨Nat.le_of_ble_eq_true rfl, Nat.le_of_ble_eq_true rfl⟩) ⟨Nat.zero_le _, Nat.zero_le _⟩ rfl (Nat.le_of_ble_eq_true rfl) (atL dAX0_findDivisor_0 7 rfl) (fun _ s2 h2 => ?_)
  obtain ⟨h2a, h2f⟩ := h2
  show V X _ w _ _ s2 []
  refine v_iconst hX (atL dAX0_findDivisor_0 8 rfl) ?_
  refine v_istore hX (lv' := [(4, .int (iI (0))), (0, .ref (w.1 7 0)), (1, .ref (w.1 3 o)), (2, .ref (w.1 3 b)), (3, .ref (w.1 3 r))]) (Nat.le_of_ble_eq_true rfl) rfl (atL dAX0_findDivisor_0 9 rfl) ?_
  exact loop 4096 0 v m s2 (by omega) hv2 hm2 (eu_0 hm2) rfl (h1a.fr h2f (by simp) (by simp)) h2a ((d15.fr h1f (by simp)).fr h2f (by simp)) ((d7.fr h1f (by simp)).fr h2f (by simp)) ((d8.fr h1f (by simp)).fr h2f (by simp)) ((d9.fr h1f (by simp)).fr h2f (by simp)) ((h1f.mono (by simp)).tr' (h2f.mono (by simp)))
