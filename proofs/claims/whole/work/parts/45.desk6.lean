set_option maxHeartbeats 1000000 in
set_option maxRecDepth 100000 in
theorem c_X0_power (l : Launch) (w : Wl) (σ : St) (hk0 : w.2 7 0) (o x : Nat) (ho : w.2 3 o) (hA : WN σ o x) (hx2 : x < 2 ^ 2048) (ho8 : o ≠ 8) (ho10 : o ≠ 10) (ex e : Nat) (hex : w.2 3 ex) (hE : WN σ ex e) (hex7 : ex ≠ 7) (hex8 : ex ≠ 8) (hex10 : ex ≠ 10) (hex11 : ex ≠ 11) (hex12 : ex ≠ 12) (mo m : Nat) (hmo : w.2 3 mo) (hMo : WN σ mo m) (hm0 : m ≠ 0) (hm1 : m < 2 ^ 1024) (r : Nat) (hr : w.2 3 r) (hdr : WDg σ r) (hr7 : r ≠ 7) (hr8 : r ≠ 8) (hr10 : r ≠ 10) (hr11 : r ≠ 11) (hr12 : r ≠ 12) (d7 : WDg σ 7) (d8 : WDg σ 8) (d10 : WDg σ 10) (d11 : WDg σ 11) (d12 : WDg σ 12) : Cn l yX0_power cX0_power 9 none 2 64 wN [.ref (w.1 7 0), .ref (w.1 3 o), .ref (w.1 3 ex), .ref (w.1 3 mo), .ref (w.1 3 r)] w σ (fun _ σ' => WN σ' r (x ^ e % m) ∧ WDg σ' 7 ∧ WDg σ' 8 ∧ WDg σ' 10 ∧ WDg σ' 11 ∧ WDg σ' 12 ∧ Fr [(8, 0), (2, 7), (3, 7), (2, 8), (3, 8), (2, 10), (3, 10), (2, 11), (3, 11), (2, 12), (3, 12), (2, r), (3, r)] σ σ') := by
  refine Cn.of (own := RX0) (lv := [(0, .ref (w.1 7 0)), (1, .ref (w.1 3 o)), (2, .ref (w.1 3 ex)), (3, .ref (w.1 3 mo)), (4, .ref (w.1 3 r))]) (by decide +kernel) rfl (Nat.le_of_ble_eq_true rfl) rfl (fun X hX hxl hR hcl hret => ?_)
  subst hxl
  have hD3 : ∀ q, (3, q) ∈ mn σ 7 0 → w.2 3 q := fun q h => hcl 7 0 hk0 (3, q) h
  have loop : ∀ (t n : Nat), m * 2 ^ t < 268435456 ^ 37 → 1 < m * 2 ^ t → ∀ (n2 pa pb : Nat) (s : St), n2 ≤ 2240 → ((pa = 11 ∧ pb = 12) ∨ (pa = 12 ∧ pb = 11)) → ND s m t n → WN s 10 (x % (m * 2 ^ t)) → WN s pa (x ^ (e / 2 ^ n2) % (m * 2 ^ t)) → WDg s pb → WDg s 7 → Fr [(8, 0), (2, 7), (3, 7), (2, 8), (3, 8), (2, 10), (3, 10), (2, 11), (3, 11), (2, 12), (3, 12)] σ s → ∀ lv0, lv_pick lv0 [0, 1, 2, 3, 4, 5, 6, 7] = [(7, .int (iI ((n2 : Int) - 1))), (6, .ref (w.1 3 pb)), (5, .ref (w.1 3 pa)), (0, .ref (w.1 7 0)), (1, .ref (w.1 3 o)), (2, .ref (w.1 3 ex)), (3, .ref (w.1 3 mo)), (4, .ref (w.1 3 r))] → V X (0, 0) w 47 lv0 s [] := by
    intro t n hδ hδ1 n2
    have hB : ∀ z, z % (m * 2 ^ t) < 268435456 ^ 37 := fun z => Nat.lt_trans (Nat.mod_lt z (by omega)) hδ
    have h37 : 268435456 ^ 37 ≤ 268435456 ^ 40 := Nat.pow_le_pow_right (by omega) (by omega)
    have hb37 : ∀ z, blen (z % (m * 2 ^ t)) ≤ 1036 := fun z => blen_le (by have := hB z; rw [p28] at this; exact this)
    have hq79 : ∀ a b, a < 268435456 ^ 37 → b < 268435456 ^ 37 → a * b < 268435456 ^ 79 := fun a b h1 h2 => Nat.lt_of_lt_of_le (Nat.mul_lt_mul'' h1 h2) (by rw [← Nat.pow_add]; exact Nat.pow_le_pow_right (by omega) (by omega))
    induction n2 with
    | zero =>
      intro pa pb s hn2 hpp hND w10 wpa dpb d7 hfr lv0 hlv
      refine v_sub _ hlv ?_
      have hpa : w.2 3 pa := by rcases hpp with ⟨h, _⟩ | ⟨h, _⟩ <;> rw [h] <;> exact hD3 _ (by simp [mn, tp])
      have hpb : w.2 3 pb := by rcases hpp with ⟨_, h⟩ | ⟨_, h⟩ <;> rw [h] <;> exact hD3 _ (by simp [mn, tp])
      obtain ⟨p1, p2, p3, p4, p5, p6, p7, p8⟩ := id hND
      rw [Nat.pow_zero, Nat.div_one] at wpa
      refine v_iload hX 0 rfl (atL dAX0_power_0 25 rfl) ?_
      refine v_if_lt hX ⟨by omega, by omega⟩ (tgt := 112) (atL dAX0_power_0 26 rfl) (by decide) (fun h49 => ?_) (fun h49 => absurd h49 (by omega))
      refine v_aload hX 2 rfl (atL dAX0_power_0 54 rfl) ?_
      refine v_aload hX 2 rfl (atL dAX0_power_0 55 rfl) ?_
      refine v_aload_n hX 3 rfl (atL dAX0_power_0 56 rfl) ?_
      refine gf_X0_21 hX (v := (t : Int)) (p1) hk0 (atL dAX0_power_0 57 rfl) ?_
      refine v_callV hX (As := [.ref (w.1 3 pa), .int (iI ((t : Int)))]) (rest := []) (c_X5_shiftUp (xl X) w s pa hpa (WN.dg wpa) pa (x ^ e % (m * 2 ^ t)) hpa wpa (Nat.lt_of_lt_of_le (hB _) (Nat.pow_le_pow_right (by omega) (by omega))) t p2) lk_X0_79 hpa (fun _ => rfl) rfl rfl rfl (by rw [hR]; exact ⟨Nat.le_of_ble_eq_true rfl, Nat.le_of_ble_eq_true rfl⟩) ⟨Nat.zero_le _, Nat.zero_le _⟩ rfl (Nat.le_of_ble_eq_true rfl) (atL dAX0_power_0 58 rfl) (fun _ s1 h1 => ?_)
      obtain ⟨h1a, h1f⟩ := h1
      have hN1 := hND.fr h1f (by simp) (by simp; omega) (by simp; omega)
      obtain ⟨q1, q2, q3, q4, q5, q6, q7, q8⟩ := id hN1
      show V X _ w _ _ s1 []
      refine v_aload_n hX 3 rfl (atL dAX0_power_0 59 rfl) ?_
      refine v_aload hX 2 rfl (atL dAX0_power_1 0 rfl) ?_
      refine v_callV hX (As := [.ref (w.1 3 pa)]) (rest := []) (c_X0_reduce (xl X) w s1 hk0 pa (x ^ e % (m * 2 ^ t) * 2 ^ t) hpa h1a (Nat.lt_of_lt_of_le (m_lt (hB _) p2) (Nat.pow_le_pow_right (by omega) (by omega))) (by omega) (by omega) (d7.fr h1f (by simp; omega)) n (m * 2 ^ t) q3 q4 q5 q6 q7 q8) lk_X0_83 hk0 (fun _ => rfl) rfl rfl rfl (by rw [hR]; exact ⟨Nat.le_of_ble_eq_true rfl, Nat.le_of_ble_eq_true rfl⟩) ⟨Nat.zero_le _, Nat.zero_le _⟩ rfl (Nat.le_of_ble_eq_true rfl) (atL dAX0_power_1 1 rfl) (fun _ s2 h2 => ?_)
      obtain ⟨h2a, h2q, h2f⟩ := h2
      have hl2 : s2 8 0 0 = (t : Int) := by rw [h2f 8 0 (by simp)]; exact q1
      show V X _ w _ _ s2 []
      refine v_aload hX 7 rfl (atL dAX0_power_1 2 rfl) ?_
      refine v_aload hX 2 rfl (atL dAX0_power_1 3 rfl) ?_
      refine v_aload_n hX 3 rfl (atL dAX0_power_1 4 rfl) ?_
      refine gf_X0_21 hX (v := (t : Int)) (hl2) hk0 (atL dAX0_power_1 5 rfl) ?_
      refine v_callV hX (As := [.ref (w.1 3 pa), .int (iI ((t : Int)))]) (rest := []) (c_X5_shiftDown (xl X) w s2 r hr (((hdr.fr hfr (by simp; omega)).fr h1f (by simp; omega)).fr h2f (by simp; omega)) pa (x ^ e % (m * 2 ^ t) * 2 ^ t % (m * 2 ^ t)) hpa h2a (by omega) t (by omega) (Or.inl p2)) lk_X0_86 hr (fun _ => rfl) rfl rfl rfl (by rw [hR]; exact ⟨Nat.le_of_ble_eq_true rfl, Nat.le_of_ble_eq_true rfl⟩) ⟨Nat.zero_le _, Nat.zero_le _⟩ rfl (Nat.le_of_ble_eq_true rfl) (atL dAX0_power_1 6 rfl) (fun _ s3 h3 => ?_)
      obtain ⟨h3a, h3f⟩ := h3
      rw [pw_end] at h3a
      show V X _ w _ _ s3 []
      exact v_vret hX (atL dAX0_power_1 7 rfl) (hret () _ (by refine ⟨h3a, (WN.dg h2q).fr h3f (by simp; omega), (q6.fr h2f (by simp; omega)).fr h3f (by simp; omega), (((WN.dg w10).fr h1f (by simp; omega)).fr h2f (by simp; omega)).fr h3f (by simp; omega), ?_, ?_, (((hfr.mono (by simp)).tr' (h1f.mono (by rcases hpp with ⟨h, _⟩ | ⟨h, _⟩ <;> subst h <;> simp))).tr' (h2f.mono (by rcases hpp with ⟨h, _⟩ | ⟨h, _⟩ <;> subst h <;> simp))).tr' (h3f.mono (by simp))⟩; rcases hpp with ⟨h, g⟩ | ⟨h, g⟩; subst h; exact (WN.dg h2a).fr h3f (by simp; omega); subst g; exact ((dpb.fr h1f (by simp; omega)).fr h2f (by simp; omega)).fr h3f (by simp; omega); rcases hpp with ⟨h, g⟩ | ⟨h, g⟩; subst g; exact ((dpb.fr h1f (by simp; omega)).fr h2f (by simp; omega)).fr h3f (by simp; omega); subst h; exact (WN.dg h2a).fr h3f (by simp; omega)))
    | succ n2 ih =>
      intro pa pb s hn2 hpp hND w10 wpa dpb d7 hfr lv0 hlv
      refine v_sub _ hlv ?_
      have hpa : w.2 3 pa := by rcases hpp with ⟨h, _⟩ | ⟨h, _⟩ <;> rw [h] <;> exact hD3 _ (by simp [mn, tp])
      have hpb : w.2 3 pb := by rcases hpp with ⟨_, h⟩ | ⟨_, h⟩ <;> rw [h] <;> exact hD3 _ (by simp [mn, tp])
      obtain ⟨p1, p2, p3, p4, p5, p6, p7, p8⟩ := id hND
      have hbt := pw_bit (e := e) (n := n2)
      refine v_iload hX 0 rfl (atL dAX0_power_0 25 rfl) ?_
      refine v_if_lt hX ⟨by omega, by omega⟩ (tgt := 112) (atL dAX0_power_0 26 rfl) (by decide) (fun h49 => absurd h49 (by omega)) (fun h49 => ?_)
      refine v_aload hX 1 rfl (atL dAX0_power_0 27 rfl) ?_
      refine v_aload hX 2 rfl (atL dAX0_power_0 28 rfl) ?_
      refine v_callV hX (As := [.ref (w.1 3 pa)]) (rest := []) (c_X5_setSquare (xl X) w s pb hpb dpb pa (x ^ (e / 2 ^ (n2 + 1)) % (m * 2 ^ t)) hpa wpa (by omega) (Nat.lt_of_lt_of_le (hB _) h37)) lk_X0_153 hpb (fun _ => rfl) rfl rfl rfl (by rw [hR]; exact ⟨Nat.le_of_ble_eq_true rfl, Nat.le_of_ble_eq_true rfl⟩) ⟨Nat.zero_le _, Nat.zero_le _⟩ rfl (Nat.le_of_ble_eq_true rfl) (atL dAX0_power_0 29 rfl) (fun _ s1 h1 => ?_)
      obtain ⟨h1a, h1f⟩ := h1
      have hN1 := hND.fr h1f (by simp) (by simp; omega) (by simp; omega)
      obtain ⟨q1, q2, q3, q4, q5, q6, q7, q8⟩ := id hN1
      show V X _ w _ _ s1 []
      refine v_aload_n hX 3 rfl (atL dAX0_power_0 30 rfl) ?_
      refine v_aload hX 1 rfl (atL dAX0_power_0 31 rfl) ?_
      refine v_callV hX (As := [.ref (w.1 3 pb)]) (rest := []) (c_X0_reduce (xl X) w s1 hk0 pb ((x ^ (e / 2 ^ (n2 + 1)) % (m * 2 ^ t)) * (x ^ (e / 2 ^ (n2 + 1)) % (m * 2 ^ t))) hpb h1a (hq79 _ _ (hB _) (hB _)) (by omega) (by omega) (d7.fr h1f (by simp; omega)) n (m * 2 ^ t) q3 q4 q5 q6 q7 q8) lk_X0_83 hk0 (fun _ => rfl) rfl rfl rfl (by rw [hR]; exact ⟨Nat.le_of_ble_eq_true rfl, Nat.le_of_ble_eq_true rfl⟩) ⟨Nat.zero_le _, Nat.zero_le _⟩ rfl (Nat.le_of_ble_eq_true rfl) (atL dAX0_power_0 32 rfl) (fun _ s2 h2 => ?_)
      obtain ⟨h2a, h2q, h2f⟩ := h2
      rw [pw_sq] at h2a
      have hN2 := hN1.fr h2f (by simp) (by simp; omega) (by simp; omega)
      obtain ⟨u1, u2, u3, u4, u5, u6, u7, u8⟩ := id hN2
      have w10b : WN s2 10 (x % (m * 2 ^ t)) := (w10.fr h1f (by simp; omega) (by simp; omega)).fr h2f (by simp; omega) (by simp; omega)
      have wpa2 : WN s2 pa (x ^ (e / 2 ^ (n2 + 1)) % (m * 2 ^ t)) := (wpa.fr h1f (by simp; omega) (by simp; omega)).fr h2f (by simp; omega) (by simp; omega)
      have hf2 : Fr [(8, 0), (2, 7), (3, 7), (2, 8), (3, 8), (2, 10), (3, 10), (2, 11), (3, 11), (2, 12), (3, 12)] σ s2 := (hfr.tr' (h1f.mono (by rcases hpp with ⟨_, h⟩ | ⟨_, h⟩ <;> subst h <;> simp))).tr' (h2f.mono (by rcases hpp with ⟨_, h⟩ | ⟨_, h⟩ <;> subst h <;> simp))
      show V X _ w _ _ s2 []
      refine v_aload_n hX 5 rfl (atL dAX0_power_0 33 rfl) ?_
      refine v_iload hX 0 rfl (atL dAX0_power_0 34 rfl) ?_
      rw [show ((n2 + 1 : Nat) : Int) - 1 = (n2 : Int) by omega]
      refine v_callV hX (As := [.int (iI ((n2 : Int)))]) (rest := []) (c_X5_hasBit (xl X) w s2 ex e hex (hE.fr hf2 (by simp; omega) (by simp; omega)) n2 (by omega)) lk_X0_156 hex (fun _ => rfl) rfl rfl rfl (by rw [hR]; exact ⟨Nat.le_of_ble_eq_true rfl, Nat.le_of_ble_eq_true rfl⟩) ⟨Nat.zero_le _, Nat.zero_le _⟩ rfl (Nat.le_of_ble_eq_true rfl) (atL dAX0_power_0 35 rfl) (fun rb sb hb0 => ?_)
      obtain ⟨hbb, hbs⟩ := hb0
      rw [hbs]
      show V X _ w _ _ s2 [.int (iI (rb))]
      refine v_if_eq hX ⟨by split at hbb <;> omega, by split at hbb <;> omega⟩ (tgt := 94) (atL dAX0_power_0 36 rfl) (by decide) (fun h71 => ?_) (fun h71 => ?_)
      · refine v_aload hX 2 rfl (atL dAX0_power_0 46 rfl) ?_
        refine v_astore hX (lv' := [(8, .ref (w.1 3 pa)), (7, .int (iI ((n2 : Int)))), (6, .ref (w.1 3 pb)), (5, .ref (w.1 3 pa)), (0, .ref (w.1 7 0)), (1, .ref (w.1 3 o)), (2, .ref (w.1 3 ex)), (3, .ref (w.1 3 mo)), (4, .ref (w.1 3 r))]) (Nat.le_of_ble_eq_true rfl) rfl (atL dAX0_power_0 47 rfl) ?_
        refine v_aload hX 2 rfl (atL dAX0_power_0 48 rfl) ?_
        refine v_astore hX (lv' := [(5, .ref (w.1 3 pb)), (8, .ref (w.1 3 pa)), (7, .int (iI ((n2 : Int)))), (6, .ref (w.1 3 pb)), (0, .ref (w.1 7 0)), (1, .ref (w.1 3 o)), (2, .ref (w.1 3 ex)), (3, .ref (w.1 3 mo)), (4, .ref (w.1 3 r))]) (Nat.le_of_ble_eq_true rfl) rfl (atL dAX0_power_0 49 rfl) ?_
        refine v_aload hX 1 rfl (atL dAX0_power_0 50 rfl) ?_
        refine v_astore hX (lv' := [(6, .ref (w.1 3 pa)), (5, .ref (w.1 3 pb)), (8, .ref (w.1 3 pa)), (7, .int (iI ((n2 : Int)))), (0, .ref (w.1 7 0)), (1, .ref (w.1 3 o)), (2, .ref (w.1 3 ex)), (3, .ref (w.1 3 mo)), (4, .ref (w.1 3 r))]) (Nat.le_of_ble_eq_true rfl) rfl (atL dAX0_power_0 51 rfl) ?_
        refine v_iinc hX (lv' := [(7, .int (iI (((n2 : Int)) + (-1)))), (6, .ref (w.1 3 pa)), (5, .ref (w.1 3 pb)), (8, .ref (w.1 3 pa)), (0, .ref (w.1 7 0)), (1, .ref (w.1 3 o)), (2, .ref (w.1 3 ex)), (3, .ref (w.1 3 mo)), (4, .ref (w.1 3 r))]) 3 rfl (iI_add _ _) (Nat.le_of_ble_eq_true rfl) rfl (atL dAX0_power_0 52 rfl) ?_
        refine v_goto hX (tgt := 47) (atL dAX0_power_0 53 rfl) (by decide) ?_
        refine v_sub (lv' := [(7, .int (iI (((n2 : Int)) + (-1)))), (6, .ref (w.1 3 pa)), (5, .ref (w.1 3 pb)), (0, .ref (w.1 7 0)), (1, .ref (w.1 3 o)), (2, .ref (w.1 3 ex)), (3, .ref (w.1 3 mo)), (4, .ref (w.1 3 r))]) [0, 1, 2, 4, 5, 6, 7, 8] rfl ?_
        rw [show (n2 : Int) + (-1) = (n2 : Int) - 1 by omega]
        have hbit : e / 2 ^ n2 % 2 = 0 := by have := Nat.mod_lt (e / 2 ^ n2) (show 0 < 2 by omega); split at hbb <;> omega
        rw [hbit, Nat.add_zero] at hbt
        exact ih pb pa s2 (by omega) (by omega) hN2 w10b (by rw [hbt]; exact h2a) (WN.dg wpa2) (WN.dg h2q) hf2 _ rfl
      · refine v_aload hX 2 rfl (atL dAX0_power_0 37 rfl) ?_
        refine v_aload hX 1 rfl (atL dAX0_power_0 38 rfl) ?_
        refine v_aload_n hX 3 rfl (atL dAX0_power_0 39 rfl) ?_
        refine gf_X0_28 hX hk0 (atL dAX0_power_0 40 rfl) ?_
        refine v_callV hX (As := [.ref (w.1 3 pb), .ref (w.1 3 10)]) (rest := []) (c_X5_setProduct (xl X) w s2 pa hpa (WN.dg wpa2) pb (x ^ (2 * (e / 2 ^ (n2 + 1))) % (m * 2 ^ t)) hpb h2a 10 (x % (m * 2 ^ t)) (hD3 10 (by simp [mn, tp])) w10b (by omega) (by omega) (Or.inr (by have := hb37 (x ^ (2 * (e / 2 ^ (n2 + 1)))); have := hb37 x; omega))) lk_X0_71 hpa (fun _ => rfl) rfl rfl rfl (by rw [hR]; exact ⟨Nat.le_of_ble_eq_true rfl, Nat.le_of_ble_eq_true rfl⟩) ⟨Nat.zero_le _, Nat.zero_le _⟩ rfl (Nat.le_of_ble_eq_true rfl) (atL dAX0_power_0 41 rfl) (fun _ s3 h3 => ?_)
        obtain ⟨h3a, h3f⟩ := h3
        have hN3 := hN2.fr h3f (by simp) (by simp; omega) (by simp; omega)
        obtain ⟨v1, v2, v3, v4, v5, v6, v7, v8⟩ := id hN3
        show V X _ w _ _ s3 []
        refine v_aload_n hX 3 rfl (atL dAX0_power_0 42 rfl) ?_
        refine v_aload hX 2 rfl (atL dAX0_power_0 43 rfl) ?_
        refine v_callV hX (As := [.ref (w.1 3 pa)]) (rest := []) (c_X0_reduce (xl X) w s3 hk0 pa (x ^ (2 * (e / 2 ^ (n2 + 1))) % (m * 2 ^ t) * (x % (m * 2 ^ t))) hpa h3a (hq79 _ _ (hB _) (hB _)) (by omega) (by omega) ((WN.dg h2q).fr h3f (by simp; omega)) n (m * 2 ^ t) v3 v4 v5 v6 v7 v8) lk_X0_83 hk0 (fun _ => rfl) rfl rfl rfl (by rw [hR]; exact ⟨Nat.le_of_ble_eq_true rfl, Nat.le_of_ble_eq_true rfl⟩) ⟨Nat.zero_le _, Nat.zero_le _⟩ rfl (Nat.le_of_ble_eq_true rfl) (atL dAX0_power_0 44 rfl) (fun _ s4 h4 => ?_)
        obtain ⟨h4a, h4q, h4f⟩ := h4
        rw [pw_mul] at h4a
        show V X _ w _ _ s4 []
        refine v_goto hX (tgt := 106) (atL dAX0_power_0 45 rfl) (by decide) ?_
        refine v_iinc hX (lv' := [(7, .int (iI (((n2 : Int)) + (-1)))), (6, .ref (w.1 3 pb)), (5, .ref (w.1 3 pa)), (0, .ref (w.1 7 0)), (1, .ref (w.1 3 o)), (2, .ref (w.1 3 ex)), (3, .ref (w.1 3 mo)), (4, .ref (w.1 3 r))]) 0 rfl (iI_add _ _) (Nat.le_of_ble_eq_true rfl) rfl (atL dAX0_power_0 52 rfl) ?_
        refine v_goto hX (tgt := 47) (atL dAX0_power_0 53 rfl) (by decide) ?_
        refine v_sub (lv' := [(7, .int (iI (((n2 : Int)) + (-1)))), (6, .ref (w.1 3 pb)), (5, .ref (w.1 3 pa)), (0, .ref (w.1 7 0)), (1, .ref (w.1 3 o)), (2, .ref (w.1 3 ex)), (3, .ref (w.1 3 mo)), (4, .ref (w.1 3 r))]) [0, 1, 2, 3, 4, 5, 6, 7] rfl ?_
        rw [show (n2 : Int) + (-1) = (n2 : Int) - 1 by omega]
        have hbit : e / 2 ^ n2 % 2 = 1 := by split at hbb <;> omega
        rw [hbit] at hbt
        refine ih pa pb s4 (by omega) hpp (hN3.fr h4f (by simp) (by simp; omega) (by simp; omega)) ((w10b.fr h3f (by simp; omega) (by simp; omega)).fr h4f (by simp; omega) (by simp; omega)) (by rw [hbt]; exact h4a) (((WN.dg h2a).fr h3f (by simp; omega)).fr h4f (by simp; omega)) (WN.dg h4q) ((hf2.tr' (h3f.mono (by rcases hpp with ⟨h, _⟩ | ⟨h, _⟩ <;> subst h <;> simp))).tr' (h4f.mono (by rcases hpp with ⟨h, _⟩ | ⟨h, _⟩ <;> subst h <;> simp))) _ rfl
  refine v_aload_n hX 0 rfl (atL dAX0_power_0 0 rfl) ?_
  refine v_aload_n hX 3 rfl (atL dAX0_power_0 1 rfl) ?_
  refine v_callV hX (As := [.ref (w.1 3 mo)]) (rest := []) (c_X0_setDivisor (xl X) w σ hk0 mo m hmo hMo hm0 (by have := hm1; exact Nat.lt_of_lt_of_le hm1 (by rw [p28]; exact Nat.pow_le_pow_right (by omega) (by omega))) d8) lk_X0_75 hk0 (fun _ => rfl) rfl rfl rfl (by rw [hR]; exact ⟨Nat.le_of_ble_eq_true rfl, Nat.le_of_ble_eq_true rfl⟩) ⟨Nat.zero_le _, Nat.zero_le _⟩ rfl (Nat.le_of_ble_eq_true rfl) (atL dAX0_power_0 2 rfl) (fun _ s1 h1 => ?_)
  obtain ⟨⟨t, n, hND⟩, hf1⟩ := h1
  obtain ⟨hlt, hgt⟩ := hND.lt (k := 37) (Nat.lt_of_lt_of_le hm1 (Nat.pow_le_pow_right (by omega) (by omega))) (by omega)
  show V X _ w _ _ s1 []
  refine v_aload_n hX 0 rfl (atL dAX0_power_0 3 rfl) ?_
  refine gf_X0_28 hX hk0 (atL dAX0_power_0 4 rfl) ?_
  refine v_aload_n hX 1 rfl (atL dAX0_power_0 5 rfl) ?_
  refine v_callV hX (As := [.ref (w.1 3 o)]) (rest := []) (c_X5_set (xl X) w s1 10 (hD3 10 (by simp [mn, tp])) (d10.fr hf1 (by simp)) o x ho (hA.fr hf1 (by simp; omega) (by simp; omega)) ho10) lk_X0_121 (hD3 10 (by simp [mn, tp])) (fun _ => rfl) rfl rfl rfl (by rw [hR]; exact ⟨Nat.le_of_ble_eq_true rfl, Nat.le_of_ble_eq_true rfl⟩) ⟨Nat.zero_le _, Nat.zero_le _⟩ rfl (Nat.le_of_ble_eq_true rfl) (atL dAX0_power_0 6 rfl) (fun _ s2 h2 => ?_)
  obtain ⟨h2a, h2f⟩ := h2
  have hN2 := hND.fr h2f (by simp) (by simp) (by simp)
  obtain ⟨q1, q2, q3, q4, q5, q6, q7, q8⟩ := id hN2
  show V X _ w _ _ s2 []
  refine v_aload_n hX 0 rfl (atL dAX0_power_0 7 rfl) ?_
  refine v_aload_n hX 0 rfl (atL dAX0_power_0 8 rfl) ?_
  refine gf_X0_28 hX hk0 (atL dAX0_power_0 9 rfl) ?_
  refine v_callV hX (As := [.ref (w.1 3 10)]) (rest := []) (c_X0_reduce (xl X) w s2 hk0 10 x (hD3 10 (by simp [mn, tp])) h2a (Nat.lt_of_lt_of_le (p2048 hx2) (Nat.pow_le_pow_right (by omega) (by omega))) (by decide) (by decide) ((d7.fr hf1 (by simp)).fr h2f (by simp)) n (m * 2 ^ t) q3 q4 q5 q6 q7 q8) lk_X0_83 hk0 (fun _ => rfl) rfl rfl rfl (by rw [hR]; exact ⟨Nat.le_of_ble_eq_true rfl, Nat.le_of_ble_eq_true rfl⟩) ⟨Nat.zero_le _, Nat.zero_le _⟩ rfl (Nat.le_of_ble_eq_true rfl) (atL dAX0_power_0 10 rfl) (fun _ s3 h3 => ?_)
  obtain ⟨h3a, h3q, h3f⟩ := h3
  show V X _ w _ _ s3 []
  refine v_aload_n hX 0 rfl (atL dAX0_power_0 11 rfl) ?_
  refine gf_X0_31 hX hk0 (atL dAX0_power_0 12 rfl) ?_
  refine v_astore hX (lv' := [(5, .ref (w.1 3 11)), (0, .ref (w.1 7 0)), (1, .ref (w.1 3 o)), (2, .ref (w.1 3 ex)), (3, .ref (w.1 3 mo)), (4, .ref (w.1 3 r))]) (Nat.le_of_ble_eq_true rfl) rfl (atL dAX0_power_0 13 rfl) ?_
  refine v_aload_n hX 1 rfl (atL dAX0_power_0 14 rfl) ?_
  refine gf_X0_34 hX hk0 (atL dAX0_power_0 15 rfl) ?_
  refine v_astore hX (lv' := [(6, .ref (w.1 3 12)), (5, .ref (w.1 3 11)), (0, .ref (w.1 7 0)), (1, .ref (w.1 3 o)), (2, .ref (w.1 3 ex)), (3, .ref (w.1 3 mo)), (4, .ref (w.1 3 r))]) (Nat.le_of_ble_eq_true rfl) rfl (atL dAX0_power_0 16 rfl) ?_
  refine v_aload hX 1 rfl (atL dAX0_power_0 17 rfl) ?_
  refine v_lconst hX (atL dAX0_power_0 18 rfl) ?_
  show V X _ w _ _ _ (.long (jI (1)) :: _)
  refine v_callV hX (As := [.long (jI (1))]) (rest := []) (c_X5_setSmall (xl X) w s3 11 (hD3 11 (by simp [mn, tp])) (((d11.fr hf1 (by simp)).fr h2f (by simp)).fr h3f (by simp)) 1 (by omega)) lk_X0_132 (hD3 11 (by simp [mn, tp])) (fun _ => rfl) rfl rfl rfl (by rw [hR]; exact ⟨Nat.le_of_ble_eq_true rfl, Nat.le_of_ble_eq_true rfl⟩) ⟨Nat.zero_le _, Nat.zero_le _⟩ rfl (Nat.le_of_ble_eq_true rfl) (atL dAX0_power_0 19 rfl) (fun _ s4 h4 => ?_)
  obtain ⟨h4a, h4f⟩ := h4
  have hf4 : Fr [(8, 0), (2, 7), (3, 7), (2, 8), (3, 8), (2, 10), (3, 10), (2, 11), (3, 11), (2, 12), (3, 12)] σ s4 := (((hf1.mono (by simp)).tr' (h2f.mono (by simp))).tr' (h3f.mono (by simp))).tr' (h4f.mono (by simp))
  show V X _ w _ _ s4 []
  refine v_aload_n hX 4 rfl (atL dAX0_power_0 20 rfl) ?_
  refine v_callV hX (As := []) (rest := []) (c_X5_bitLength (xl X) w s4 ex e hex (hE.fr hf4 (by simp; omega) (by simp; omega))) lk_X0_67 hex (fun _ => rfl) rfl rfl rfl (by rw [hR]; exact ⟨Nat.le_of_ble_eq_true rfl, Nat.le_of_ble_eq_true rfl⟩) ⟨Nat.zero_le _, Nat.zero_le _⟩ rfl (Nat.le_of_ble_eq_true rfl) (atL dAX0_power_0 21 rfl) (fun r5 s5 h5 => ?_)
  obtain ⟨hr5, hs5⟩ := h5
  rw [hs5]
  subst hr5
  have hbl : blen e ≤ 2240 := blen_le hE.le
  show V X _ w _ _ s4 [.int (iI ((blen e : Nat)))]
  refine v_iconst hX (atL dAX0_power_0 22 rfl) ?_
  refine v_isub hX (iI_sub _ _) (atL dAX0_power_0 23 rfl) ?_
  refine v_istore hX (lv' := [(7, .int (iI (((blen e : Nat)) - 1))), (6, .ref (w.1 3 12)), (5, .ref (w.1 3 11)), (0, .ref (w.1 7 0)), (1, .ref (w.1 3 o)), (2, .ref (w.1 3 ex)), (3, .ref (w.1 3 mo)), (4, .ref (w.1 3 r))]) (Nat.le_of_ble_eq_true rfl) rfl (atL dAX0_power_0 24 rfl) ?_
  refine loop t n hlt hgt (blen e) 11 12 s4 hbl (Or.inl ⟨rfl, rfl⟩) ((hN2.fr h3f (by simp) (by simp) (by simp)).fr h4f (by simp) (by simp) (by simp)) (h3a.fr h4f (by simp) (by simp)) ?_ ((((d12.fr hf1 (by simp)).fr h2f (by simp)).fr h3f (by simp)).fr h4f (by simp)) ((WN.dg h3q).fr h4f (by simp)) hf4 _ rfl
  rw [Nat.div_eq_of_lt (blen_lt e), Nat.pow_zero, Nat.mod_eq_of_lt hgt]
  exact h4a
