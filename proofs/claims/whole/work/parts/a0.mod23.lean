theorem RE_ex (e n p q : Nat) : ∃ b, RE e n p q b := by
  by_cases h : XE e n
  · by_cases h2 : Nat.gcd e (p - 1) = 1 ∧ Nat.gcd e (q - 1) = 1
    · exact ⟨0, Or.inr (Or.inr ⟨rfl, h, h2.1, h2.2⟩)⟩
    · exact ⟨-5, Or.inr (Or.inl ⟨rfl, h, h2⟩)⟩
  · exact ⟨-4, Or.inl ⟨rfl, h⟩⟩
theorem pb_3 {p : Nat} (h : prob p) (h2 : p ≠ 2) : 3 ≤ p := by
  rcases h with ⟨k, hk, rfl⟩ | ⟨h, -⟩
  · have : ∀ k, k < 12 → 2 ≤ bs k := by decide +kernel
    have := this k hk
    omega
  · omega
theorem lcm_le2 {a b : Nat} (ha : 0 < a) (hb : 0 < b) : Nat.lcm a b ≤ a * b := Nat.le_of_dvd (Nat.mul_pos ha hb) (Nat.lcm_dvd_mul a b)
theorem sub_mul_le {p q : Nat} : (p - 1) * (q - 1) ≤ p * q := Nat.mul_le_mul (Nat.sub_le _ _) (Nat.sub_le _ _)
theorem cop_lcm {e a b : Nat} (h1 : Nat.gcd e a = 1) (h2 : Nat.gcd e b = 1) : Nat.gcd e (Nat.lcm a b) = 1 := Nat.Coprime.coprime_dvd_right (Nat.lcm_dvd_mul a b) (Nat.Coprime.mul_right h1 h2)
theorem lcm_pos2 {a b : Nat} (ha : a ≠ 0) (hb : b ≠ 0) : Nat.lcm a b ≠ 0 := Nat.pos_iff_ne_zero.mp (Nat.lcm_pos (Nat.pos_of_ne_zero ha) (Nat.pos_of_ne_zero hb))

theorem DG.kp [Gh] {s t : St} (h : DG s) (e : ∀ q, q ≠ 2 → t 10 0 q = s 10 0 q) (f : Fr [(10, 0), (13, 3), (13, 11), (13, 12)] s t) : DG t := by
  unfold DG CO
  rw [e 3 (by decide), e 4 (by decide), f 13 7 (by decide), f 13 8 (by decide)]
  exact h
theorem DG.nk [Gh] {s : St} {k v : Int} {q : Nat} (h : DG s) : DG (su (su s 14 0 q v) 10 0 5 k) := by
  have e3 : su (su s 14 0 q v) 10 0 5 k 10 0 3 = s 10 0 3 := by rw [su_j (by decide), su_c (by decide)]
  have e4 : su (su s 14 0 q v) 10 0 5 k 10 0 4 = s 10 0 4 := by rw [su_j (by decide), su_c (by decide)]
  unfold DG CO
  rw [su_rc (by decide : (13 : Nat) ≠ 10), su_rc (by decide : (13 : Nat) ≠ 14), e3, e4]
  exact h
theorem FC.nk {σ s : St} {k v : Int} {q : Nat} (h : FC σ s) : FC σ (su (su s 14 0 q v) 10 0 5 k) := h.tr (fun c i hc => by rw [su_rc (by omega), su_rc (by omega)])
theorem nk_0 {s : St} {k v : Int} {q : Nat} (h : s 10 0 0 = 0) : su (su s 14 0 q v) 10 0 5 k 10 0 0 = 0 := by rw [su_j (by decide), su_c (by decide)]; exact h

set_option maxHeartbeats 1000000 in
set_option maxRecDepth 100000 in
theorem c_X8_open [Gh] (l : Launch) (w : Wl) (σ : St) (hk0 : w.2 13 0) (A : Ab) (hM : HM σ A) (p0 : Int) (hp0 : rI p0) (p1 : Int) (hp1 : rI p1) : Cn l yX8_open cX8_open 3 (Option.some Jvm.ClassFile.FieldType.int) 3 68 wI [.ref (w.1 13 0), .int (iI (p0)), .int (iI (p1))] w σ (fun a σ' => ∃ A', f_open A p0 p1 (σ' 10 0 0, a, A') ∧ HM σ' A' ∧ FC σ σ') := by
  refine Cn.of (own := RX8) (lv := [(0, .ref (w.1 13 0)), (1, .int (iI (p0))), (2, .int (iI (p1)))]) (by decide +kernel) rfl (Nat.le_of_ble_eq_true rfl) rfl (fun X hX hxl hR hcl hret => ?_)
  subst hxl
  have hQ : ∀ q, (14, q) ∈ mn σ 13 0 → w.2 14 q := fun q h => hcl 13 0 hk0 (14, q) h
  have hQ5 : ∀ q, (14, q) ∈ mn σ 13 0 → w.2 15 q := fun q h => hcl 14 q (hQ q h) (15, q) (by simp [mn, tp])
  have hQ16 : ∀ q, (16, q) ∈ mn σ 13 0 → w.2 16 q := fun q h => hcl 13 0 hk0 (16, q) h
  have hp0a := hp0.1
  have hp0b := hp0.2
  have hp1a := hp1.1
  have hp1b := hp1.2
  refine v_aload_n hX 0 rfl (atL dAX8_open_0 0 rfl) ?_
  refine v_iload_n hX 1 rfl (atL dAX8_open_0 1 rfl) ?_
  refine v_iload_n hX 2 rfl (atL dAX8_open_0 2 rfl) ?_
  refine v_iload_n hX 2 rfl (atL dAX8_open_0 3 rfl) ?_
  refine v_callV hX (As := [.int (iI (p0)), .int (iI (p1)), .int (iI (p1))]) (rest := []) (c_X8_are (xl X) w σ hk0 p0 hp0 p1 hp1 p1 hp1) lk_X8_240 hk0 (fun _ => rfl) rfl rfl rfl (by rw [hR]; exact ⟨Nat.le_of_ble_eq_true rfl, Nat.le_of_ble_eq_true rfl⟩) ⟨Nat.zero_le _, Nat.zero_le _⟩ rfl (Nat.le_of_ble_eq_true rfl) (atL dAX8_open_0 4 rfl) (fun r1 s1 g1 => ?_)
  obtain ⟨gs1, ht1, hG1, hA1, hD1⟩ := are_use g1 FG.rf hM.2.1 hM.2.2
  have gd1 : r1 = 0 ∨ r1 = 1 := by rcases gs1 with q | q <;> omega
  show V X _ w _ _ s1 [.int (iI (r1))]
  refine v_if_ne hX ⟨by omega, by omega⟩ (tgt := 12) (atL dAX8_open_0 5 rfl) (by decide) (fun h7 => ?_) (fun h7 => ?_)
  · obtain ⟨sp0, rfl⟩ : ∃ q : Nat, p0 = (q : Int) := ⟨p0.toNat, by omega⟩
    obtain ⟨sp1, rfl⟩ : ∃ q : Nat, p1 = (q : Int) := ⟨p1.toNat, by omega⟩
    obtain ⟨lsp0, hlsp0⟩ : ∃ q, (A.1 sp0).length = q := ⟨_, rfl⟩
    have hqsp0 : lsp0 ≤ 256 := by rw [← hlsp0]; exact hM.1.len (by omega)
    have hbvsp0 : lb (rv (A.1 sp0)) 128 := rv_lb (hM.1.by (by omega)) (hM.1.len (by omega))
    obtain ⟨lsp1, hlsp1⟩ : ∃ q, (A.1 sp1).length = q := ⟨_, rfl⟩
    have hqsp1 : lsp1 ≤ 256 := by rw [← hlsp1]; exact hM.1.len (by omega)
    have hbvsp1 : lb (rv (A.1 sp1)) 128 := rv_lb (hM.1.by (by omega)) (hM.1.len (by omega))
    refine v_aload_n hX 0 rfl (atL dAX8_open_0 8 rfl) ?_
    refine v_iload_n hX 1 rfl (atL dAX8_open_0 9 rfl) ?_
    refine v_aload_n hX 0 rfl (atL dAX8_open_0 10 rfl) ?_
    refine gf_X8_126 hX hk0 (atL dAX8_open_0 11 rfl) ?_
    refine v_callV hX (As := [.int (iI ((sp0 : Int))), .ref (w.1 14 23)]) (rest := []) (c_X8_number (xl X) w s1 hk0 sp0 (by omega) (A.1 sp0) ((hM.1.fg hG1).1 sp0 (by omega)).1 (hM.1.by (by omega)) 23 (hQ 23 (by simp [mn, tp])) (hA1 23)) lk_X8_271 hk0 (fun _ => rfl) rfl rfl rfl (by rw [hR]; exact ⟨Nat.le_of_ble_eq_true rfl, Nat.le_of_ble_eq_true rfl⟩) ⟨Nat.zero_le _, Nat.zero_le _⟩ rfl (Nat.le_of_ble_eq_true rfl) (atL dAX8_open_0 12 rfl) (fun _ s2 e2 => ?_)
    obtain ⟨hw2, hf2⟩ := e2
    have hA2 := hA1.one hf2 hw2
    have hG2 := hG1.fr hf2 rfl (by decide)
    have hD2 := hD1.fr hf2 (by decide) (by decide) (by decide)
    have ht2 : s2 10 0 0 = 0 := by rw [hf2 10 0 (by decide)]; omega
    show V X _ w _ _ s2 []
    refine v_aload_n hX 0 rfl (atL dAX8_open_0 13 rfl) ?_
    refine v_iload_n hX 2 rfl (atL dAX8_open_0 14 rfl) ?_
    refine v_aload_n hX 0 rfl (atL dAX8_open_0 15 rfl) ?_
    refine gf_X8_129 hX hk0 (atL dAX8_open_0 16 rfl) ?_
    refine v_callV hX (As := [.int (iI ((sp1 : Int))), .ref (w.1 14 24)]) (rest := []) (c_X8_number (xl X) w s2 hk0 sp1 (by omega) (A.1 sp1) ((hM.1.fg hG2).1 sp1 (by omega)).1 (hM.1.by (by omega)) 24 (hQ 24 (by simp [mn, tp])) (hA2 24)) lk_X8_271 hk0 (fun _ => rfl) rfl rfl rfl (by rw [hR]; exact ⟨Nat.le_of_ble_eq_true rfl, Nat.le_of_ble_eq_true rfl⟩) ⟨Nat.zero_le _, Nat.zero_le _⟩ rfl (Nat.le_of_ble_eq_true rfl) (atL dAX8_open_0 17 rfl) (fun _ s3 e3 => ?_)
    obtain ⟨hw3, hf3⟩ := e3
    have hA3 := hA2.one hf3 hw3
    have hn3_23 := nm.fr hw2 hf3 (by decide) (by decide)
    have hG3 := hG2.fr hf3 rfl (by decide)
    have hD3 := hD2.fr hf3 (by decide) (by decide) (by decide)
    have ht3 : s3 10 0 0 = 0 := by rw [hf3 10 0 (by decide)]; omega
    show V X _ w _ _ s3 []
    refine v_aload_n hX 0 rfl (atL dAX8_open_0 18 rfl) ?_
    refine v_callV hX (As := []) (rest := []) (c_X8_isUnfit (xl X) w s3 hk0 (rv (A.1 sp0)) hn3_23) lk_X8_361 hk0 (fun _ => rfl) rfl rfl rfl (by rw [hR]; exact ⟨Nat.le_of_ble_eq_true rfl, Nat.le_of_ble_eq_true rfl⟩) ⟨Nat.zero_le _, Nat.zero_le _⟩ rfl (Nat.le_of_ble_eq_true rfl) (atL dAX8_open_0 19 rfl) (fun r4 z4 g4 => ?_)
    obtain ⟨gc4, gb4⟩ := g4
    rw [gb4]
    have gd4 : r4 = 0 ∨ r4 = 1 := by rcases gc4 with q | q <;> omega
    show V X _ w _ _ s3 [.int (iI (r4))]
    refine v_if_eq hX ⟨by omega, by omega⟩ (tgt := 39) (atL dAX8_open_0 20 rfl) (by decide) (fun h34 => ?_) (fun h34 => ?_)
    · have hfit : fitN (rv (A.1 sp0)) := Classical.not_not.mp (gc4.f h34)
      refine v_aload_n hX 0 rfl (atL dAX8_open_0 23 rfl) ?_
      refine gf_X8_126 hX hk0 (atL dAX8_open_0 24 rfl) ?_
      refine v_callN hX (As := []) (rest := []) (c_X7_isOdd (xl X) w s3 23 (rv (A.1 sp0)) (hQ 23 (by simp [mn, tp])) hn3_23) lk_X8_224 (hQ 23 (by simp [mn, tp])) (fun _ => rfl) rfl rfl rfl (by rw [hR]; exact ⟨Nat.le_of_ble_eq_true rfl, Nat.le_of_ble_eq_true rfl⟩) ⟨Nat.zero_le _, Nat.zero_le _⟩ rfl (Nat.le_of_ble_eq_true rfl) (atL dAX8_open_0 25 rfl) (fun r5 z5 g5 => ?_)
      obtain ⟨gc5, gb5⟩ := g5
      rw [gb5]
      have gd5 : r5 = 0 ∨ r5 = 1 := by rcases gc5 with q | q <;> omega
      show V X _ w _ _ s3 [.int (iI (r5))]
      refine v_if_eq hX ⟨by omega, by omega⟩ (tgt := 56) (atL dAX8_open_0 26 rfl) (by decide) (fun h46 => ?_) (fun h46 => ?_)
      · refine v_bipush hX (by decide +kernel) (atL dAX8_open_0 30 rfl) ?_
        exact v_iret hX (atL dAX8_open_0 31 rfl) (hret _ _ ⟨A, Or.inr ⟨by omega, Or.inr (Or.inl ⟨by rw [Int.toNat_natCast]; exact hfit, by rw [Int.toNat_natCast, Int.toNat_natCast]; exact (fun q => gc5.f h46 q.1), by rw [show s3 10 0 0 = 0 by omega]⟩)⟩, ⟨(hM.1.fg hG3), hA3, hD3⟩, hG3.fc⟩)
      · have hod := gc5.t h46
        refine v_aload_n hX 0 rfl (atL dAX8_open_0 27 rfl) ?_
        refine v_callV hX (As := []) (rest := []) (c_X8_isRefused (xl X) w s3 hk0 (rv (A.1 sp1)) (rv (A.1 sp0)) hw3 hn3_23) lk_X8_364 hk0 (fun _ => rfl) rfl rfl rfl (by rw [hR]; exact ⟨Nat.le_of_ble_eq_true rfl, Nat.le_of_ble_eq_true rfl⟩) ⟨Nat.zero_le _, Nat.zero_le _⟩ rfl (Nat.le_of_ble_eq_true rfl) (atL dAX8_open_0 28 rfl) (fun r6 z6 g6 => ?_)
        obtain ⟨gc6, gb6⟩ := g6
        rw [gb6]
        have gd6 : r6 = 0 ∨ r6 = 1 := by rcases gc6 with q | q <;> omega
        show V X _ w _ _ s3 [.int (iI (r6))]
        refine v_if_eq hX ⟨by omega, by omega⟩ (tgt := 59) (atL dAX8_open_0 29 rfl) (by decide) (fun h53 => ?_) (fun h53 => ?_)
        · have hxe : XE (rv (A.1 sp1)) (rv (A.1 sp0)) := Classical.not_not.mp (gc6.f h53)
          have hk16 := hM.1.2.2.2.1
          refine v_aload_n hX 0 rfl (atL dAX8_open_0 32 rfl) ?_
          refine gf_X8_358 hX (v := (A.2.1 : Int)) ((hM.1.fg hG3).2.2.1) hk0 (atL dAX8_open_0 33 rfl) ?_
          refine v_bipush hX (by decide +kernel) (atL dAX8_open_0 34 rfl) ?_
          refine v_icmp_ne hX ⟨by omega, by omega⟩ ⟨by omega, by omega⟩ (tgt := 71) (atL dAX8_open_0 35 rfl) (by decide) (fun h65 => ?_) (fun h65 => ?_)
          · refine v_aload_n hX 0 rfl (atL dAX8_open_0 38 rfl) ?_
            refine v_iconst hX (atL dAX8_open_0 39 rfl) ?_
            refine v_aload_n hX 0 rfl (atL dAX8_open_0 40 rfl) ?_
            refine gf_X8_126 hX hk0 (atL dAX8_open_0 41 rfl) ?_
            refine v_callV hX (As := [.int (iI (0)), .ref (w.1 14 23)]) (rest := []) (c_X8_keeps (xl X) w s3 hk0 A (hM.1.fg hG3) (by omega) 0 (by decide) 23 (rv (A.1 sp0)) (hQ 23 (by simp [mn, tp])) hn3_23 hfit.2) lk_X8_367 hk0 (fun _ => rfl) rfl rfl rfl (by rw [hR]; exact ⟨Nat.le_of_ble_eq_true rfl, Nat.le_of_ble_eq_true rfl⟩) ⟨Nat.zero_le _, Nat.zero_le _⟩ rfl (Nat.le_of_ble_eq_true rfl) (atL dAX8_open_0 42 rfl) (fun _ s7 e7 => ?_)
            obtain ⟨hP7, hkp7_0, gk7, ge7, hf7⟩ := e7
            have hn7_23 := nm.fr hn3_23 hf7 (by decide) (by decide)
            have hn7_24 := nm.fr hw3 hf7 (by decide) (by decide)
            have hA7 := hA3.fp hf7 rfl
            have hD7 := DG.kp hD3 ge7 hf7
            have hC7 := FC.fr hG3.fc hf7 (by decide)
            have ht7 : s7 10 0 0 = 0 := by rw [ge7 0 (by decide)]; omega
            have hG7 : FG s7 s7 := FG.rf
            show V X _ w _ _ s7 []
            refine v_aload_n hX 0 rfl (atL dAX8_open_0 43 rfl) ?_
            refine v_iconst hX (atL dAX8_open_0 44 rfl) ?_
            refine v_aload_n hX 0 rfl (atL dAX8_open_0 45 rfl) ?_
            refine gf_X8_129 hX hk0 (atL dAX8_open_0 46 rfl) ?_
            refine v_callV hX (As := [.int (iI (1)), .ref (w.1 14 24)]) (rest := []) (c_X8_keeps (xl X) w s7 hk0 A (hP7.fg hG7) (by omega) 1 (by decide) 24 (rv (A.1 sp1)) (hQ 24 (by simp [mn, tp])) hn7_24 (Nat.le_trans (nby_mono (Nat.le_of_lt hxe.2.2)) hfit.2)) lk_X8_367 hk0 (fun _ => rfl) rfl rfl rfl (by rw [hR]; exact ⟨Nat.le_of_ble_eq_true rfl, Nat.le_of_ble_eq_true rfl⟩) ⟨Nat.zero_le _, Nat.zero_le _⟩ rfl (Nat.le_of_ble_eq_true rfl) (atL dAX8_open_0 47 rfl) (fun _ s8 e8 => ?_)
            obtain ⟨hP8, hkp8_1, gk8, ge8, hf8⟩ := e8
            have hn8_23 := nm.fr hn7_23 hf8 (by decide) (by decide)
            have hn8_24 := nm.fr hn7_24 hf8 (by decide) (by decide)
            have hkp8_0 := gk8 0 _ (by decide) hkp7_0
            have hA8 := hA7.fp hf8 rfl
            have hD8 := DG.kp hD7 ge8 hf8
            have hC8 := FC.fr (hC7.tr hG7.fc) hf8 (by decide)
            have ht8 : s8 10 0 0 = 0 := by rw [ge8 0 (by decide)]; omega
            have hG8 : FG s8 s8 := FG.rf
            show V X _ w _ _ s8 []
            refine v_aload_n hX 0 rfl (atL dAX8_open_0 48 rfl) ?_
            refine gf_X8_122 hX hk0 (atL dAX8_open_0 49 rfl) ?_
            refine v_aload_n hX 0 rfl (atL dAX8_open_0 50 rfl) ?_
            refine gf_X8_358 hX (v := (A.2.1 : Int)) ((hP8.fg hG8).2.2.1) hk0 (atL dAX8_open_0 51 rfl) ?_
            refine v_iconst hX (atL dAX8_open_0 52 rfl) ?_
            refine v_zast hX (c := 14) A.2.1 (hcl 13 0 hk0 (17, 0) (by simp [mn, tp])) (by decide) (fun _ _ => rfl) (by decide +kernel) rfl (show A.2.1 < 16 by omega) (by decide) (atL dAX8_open_0 53 rfl) ?_
            refine v_aload_n hX 0 rfl (atL dAX8_open_0 54 rfl) ?_
            refine v_dup hX rfl (atL dAX8_open_0 55 rfl) ?_
            refine gf_X8_358 hX (v := (A.2.1 : Int)) ((su_c (by decide)).trans ((hP8.fg hG8).2.2.1)) hk0 (atL dAX8_open_0 56 rfl) ?_
            refine v_iconst hX (atL dAX8_open_0 57 rfl) ?_
            refine v_iadd hX (iI_add _ _) (atL dAX8_open_0 58 rfl) ?_
            refine pf_X8_358 hX hk0 (atL dAX8_open_0 59 rfl) ?_
            refine v_aload_n hX 0 rfl (atL dAX8_open_1 0 rfl) ?_
            refine gf_X8_358 hX (v := ((A.2.1 : Int)) + 1) (su_s) hk0 (atL dAX8_open_1 1 rfl) ?_
            refine v_iconst hX (atL dAX8_open_1 2 rfl) ?_
            refine v_isub hX (iI_sub _ _) (atL dAX8_open_1 3 rfl) ?_
            exact v_iret hX (atL dAX8_open_1 4 rfl) (hret _ _ ⟨A.add 2 (openK (rv (A.1 sp0)) (rv (A.1 sp1))), Or.inr ⟨by omega, Or.inr (Or.inr ⟨by rw [Int.toNat_natCast]; exact hfit, by rw [Int.toNat_natCast, Int.toNat_natCast]; exact ⟨hod, hxe⟩, Or.inr ⟨by omega, by rw [Int.toNat_natCast, Int.toNat_natCast, show (su (su s8 14 0 A.2.1 0) 10 0 5 (((A.2.1 : Int)) + 1)) 10 0 0 = 0 from nk_0 ht8, Int.add_sub_cancel]⟩⟩)⟩, ⟨(hP8.fg hG8).add (P := 2) (K := openK (rv (A.1 sp0)) (rv (A.1 sp1))) (by omega) (Or.inl rfl) (fun j hj => by rcases (show j = 0 ∨ j = 1 by omega) with rfl | rfl; exact hkp8_0; exact hkp8_1) (by show rv (A.1 sp0) ≠ 0; omega) rfl, (hA8.s1 (by decide)).s1 (by decide), hD8.nk⟩, FC.nk (hC8.tr hG8.fc)⟩)
          · refine v_bipush hX (by decide +kernel) (atL dAX8_open_0 36 rfl) ?_
            exact v_iret hX (atL dAX8_open_0 37 rfl) (hret _ _ ⟨A, Or.inr ⟨by omega, Or.inr (Or.inr ⟨by rw [Int.toNat_natCast]; exact hfit, by rw [Int.toNat_natCast, Int.toNat_natCast]; exact ⟨hod, hxe⟩, Or.inl ⟨by omega, by rw [show s3 10 0 0 = 0 by omega]⟩⟩)⟩, ⟨(hM.1.fg hG3), hA3, hD3⟩, hG3.fc⟩)
        · refine v_bipush hX (by decide +kernel) (atL dAX8_open_0 30 rfl) ?_
          exact v_iret hX (atL dAX8_open_0 31 rfl) (hret _ _ ⟨A, Or.inr ⟨by omega, Or.inr (Or.inl ⟨by rw [Int.toNat_natCast]; exact hfit, by rw [Int.toNat_natCast, Int.toNat_natCast]; exact (fun q => gc6.t h53 q.2), by rw [show s3 10 0 0 = 0 by omega]⟩)⟩, ⟨(hM.1.fg hG3), hA3, hD3⟩, hG3.fc⟩)
    · refine v_iconst hX (atL dAX8_open_0 21 rfl) ?_
      exact v_iret hX (atL dAX8_open_0 22 rfl) (hret _ _ ⟨A, Or.inr ⟨by omega, Or.inl ⟨by rw [Int.toNat_natCast]; exact gc4.t h34, by rw [show s3 10 0 0 = 0 by omega]⟩⟩, ⟨(hM.1.fg hG3), hA3, hD3⟩, hG3.fc⟩)
  · refine v_iconst hX (atL dAX8_open_0 6 rfl) ?_
    exact v_iret hX (atL dAX8_open_0 7 rfl) (hret _ _ ⟨A, Or.inl ⟨by omega, by rw [show s1 10 0 0 = 1 by omega]⟩, ⟨(hM.1.fg hG1), hA1, hD1⟩, hG1.fc⟩)

set_option maxHeartbeats 1000000 in
set_option maxRecDepth 100000 in
theorem c_X8_key [Gh] (l : Launch) (w : Wl) (σ : St) (hk0 : w.2 13 0) (A : Ab) (hM : HM σ A) (p0 : Int) (hp0 : rI p0) (p1 : Int) (hp1 : rI p1) (p2 : Int) (hp2 : rI p2) : Cn l yX8_key cX8_key 6 (Option.some Jvm.ClassFile.FieldType.int) 6 153 wI [.ref (w.1 13 0), .int (iI (p0)), .int (iI (p1)), .int (iI (p2))] w σ (fun a σ' => ∃ A', f_key A p0 p1 p2 (σ' 10 0 0, a, A') ∧ HM σ' A' ∧ FC σ σ') := by
  refine Cn.of (own := RX8) (lv := [(0, .ref (w.1 13 0)), (1, .int (iI (p0))), (2, .int (iI (p1))), (3, .int (iI (p2)))]) (by decide +kernel) rfl (Nat.le_of_ble_eq_true rfl) rfl (fun X hX hxl hR hcl hret => ?_)
  subst hxl
  have hQ : ∀ q, (14, q) ∈ mn σ 13 0 → w.2 14 q := fun q h => hcl 13 0 hk0 (14, q) h
  have hQ5 : ∀ q, (14, q) ∈ mn σ 13 0 → w.2 15 q := fun q h => hcl 14 q (hQ q h) (15, q) (by simp [mn, tp])
  have hQ16 : ∀ q, (16, q) ∈ mn σ 13 0 → w.2 16 q := fun q h => hcl 13 0 hk0 (16, q) h
  have hp0a := hp0.1
  have hp0b := hp0.2
  have hp1a := hp1.1
  have hp1b := hp1.2
  have hp2a := hp2.1
  have hp2b := hp2.2
  refine v_aload_n hX 0 rfl (atL dAX8_key_0 0 rfl) ?_
  refine v_iload_n hX 1 rfl (atL dAX8_key_0 1 rfl) ?_
  refine v_iload_n hX 2 rfl (atL dAX8_key_0 2 rfl) ?_
  refine v_iload_n hX 3 rfl (atL dAX8_key_0 3 rfl) ?_
  refine v_callV hX (As := [.int (iI (p0)), .int (iI (p1)), .int (iI (p2))]) (rest := []) (c_X8_are (xl X) w σ hk0 p0 hp0 p1 hp1 p2 hp2) lk_X8_240 hk0 (fun _ => rfl) rfl rfl rfl (by rw [hR]; exact ⟨Nat.le_of_ble_eq_true rfl, Nat.le_of_ble_eq_true rfl⟩) ⟨Nat.zero_le _, Nat.zero_le _⟩ rfl (Nat.le_of_ble_eq_true rfl) (atL dAX8_key_0 4 rfl) (fun r1 s1 g1 => ?_)
  obtain ⟨gs1, ht1, hG1, hA1, hD1⟩ := are_use g1 FG.rf hM.2.1 hM.2.2
  have gd1 : r1 = 0 ∨ r1 = 1 := by rcases gs1 with q | q <;> omega
  show V X _ w _ _ s1 [.int (iI (r1))]
  refine v_if_ne hX ⟨by omega, by omega⟩ (tgt := 12) (atL dAX8_key_0 5 rfl) (by decide) (fun h7 => ?_) (fun h7 => ?_)
  · obtain ⟨sp0, rfl⟩ : ∃ q : Nat, p0 = (q : Int) := ⟨p0.toNat, by omega⟩
    obtain ⟨sp1, rfl⟩ : ∃ q : Nat, p1 = (q : Int) := ⟨p1.toNat, by omega⟩
    obtain ⟨sp2, rfl⟩ : ∃ q : Nat, p2 = (q : Int) := ⟨p2.toNat, by omega⟩
    obtain ⟨lsp0, hlsp0⟩ : ∃ q, (A.1 sp0).length = q := ⟨_, rfl⟩
    have hqsp0 : lsp0 ≤ 256 := by rw [← hlsp0]; exact hM.1.len (by omega)
    have hbvsp0 : lb (rv (A.1 sp0)) 128 := rv_lb (hM.1.by (by omega)) (hM.1.len (by omega))
    obtain ⟨lsp1, hlsp1⟩ : ∃ q, (A.1 sp1).length = q := ⟨_, rfl⟩
    have hqsp1 : lsp1 ≤ 256 := by rw [← hlsp1]; exact hM.1.len (by omega)
    have hbvsp1 : lb (rv (A.1 sp1)) 128 := rv_lb (hM.1.by (by omega)) (hM.1.len (by omega))
    obtain ⟨lsp2, hlsp2⟩ : ∃ q, (A.1 sp2).length = q := ⟨_, rfl⟩
    have hqsp2 : lsp2 ≤ 256 := by rw [← hlsp2]; exact hM.1.len (by omega)
    have hbvsp2 : lb (rv (A.1 sp2)) 128 := rv_lb (hM.1.by (by omega)) (hM.1.len (by omega))
    have hSS : isS (sp0 : Int) ∧ isS (sp1 : Int) ∧ isS (sp2 : Int) := by omega
    refine v_aload_n hX 0 rfl (atL dAX8_key_0 8 rfl) ?_
    refine v_iload_n hX 1 rfl (atL dAX8_key_0 9 rfl) ?_
    refine v_aload_n hX 0 rfl (atL dAX8_key_0 10 rfl) ?_
    refine gf_X8_135 hX hk0 (atL dAX8_key_0 11 rfl) ?_
    refine v_callV hX (As := [.int (iI ((sp0 : Int))), .ref (w.1 14 26)]) (rest := []) (c_X8_number (xl X) w s1 hk0 sp0 (by omega) (A.1 sp0) ((hM.1.fg hG1).1 sp0 (by omega)).1 (hM.1.by (by omega)) 26 (hQ 26 (by simp [mn, tp])) (hA1 26)) lk_X8_271 hk0 (fun _ => rfl) rfl rfl rfl (by rw [hR]; exact ⟨Nat.le_of_ble_eq_true rfl, Nat.le_of_ble_eq_true rfl⟩) ⟨Nat.zero_le _, Nat.zero_le _⟩ rfl (Nat.le_of_ble_eq_true rfl) (atL dAX8_key_0 12 rfl) (fun _ s2 e2 => ?_)
    obtain ⟨hw2, hf2⟩ := e2
    have hA2 := hA1.one hf2 hw2
    have hG2 := hG1.fr hf2 rfl (by decide)
    have hD2 := hD1.fr hf2 (by decide) (by decide) (by decide)
    have ht2 : s2 10 0 0 = 0 := by rw [hf2 10 0 (by decide)]; omega
    show V X _ w _ _ s2 []
    refine v_aload_n hX 0 rfl (atL dAX8_key_0 13 rfl) ?_
    refine v_iload_n hX 2 rfl (atL dAX8_key_0 14 rfl) ?_
    refine v_aload_n hX 0 rfl (atL dAX8_key_0 15 rfl) ?_
    refine gf_X8_138 hX hk0 (atL dAX8_key_0 16 rfl) ?_
    refine v_callV hX (As := [.int (iI ((sp1 : Int))), .ref (w.1 14 27)]) (rest := []) (c_X8_number (xl X) w s2 hk0 sp1 (by omega) (A.1 sp1) ((hM.1.fg hG2).1 sp1 (by omega)).1 (hM.1.by (by omega)) 27 (hQ 27 (by simp [mn, tp])) (hA2 27)) lk_X8_271 hk0 (fun _ => rfl) rfl rfl rfl (by rw [hR]; exact ⟨Nat.le_of_ble_eq_true rfl, Nat.le_of_ble_eq_true rfl⟩) ⟨Nat.zero_le _, Nat.zero_le _⟩ rfl (Nat.le_of_ble_eq_true rfl) (atL dAX8_key_0 17 rfl) (fun _ s3 e3 => ?_)
    obtain ⟨hw3, hf3⟩ := e3
    have hA3 := hA2.one hf3 hw3
    have hn3_26 := nm.fr hw2 hf3 (by decide) (by decide)
    have hG3 := hG2.fr hf3 rfl (by decide)
    have hD3 := hD2.fr hf3 (by decide) (by decide) (by decide)
    have ht3 : s3 10 0 0 = 0 := by rw [hf3 10 0 (by decide)]; omega
    show V X _ w _ _ s3 []
    refine v_aload_n hX 0 rfl (atL dAX8_key_0 18 rfl) ?_
    refine v_iload_n hX 3 rfl (atL dAX8_key_0 19 rfl) ?_
    refine v_aload_n hX 0 rfl (atL dAX8_key_0 20 rfl) ?_
    refine gf_X8_129 hX hk0 (atL dAX8_key_0 21 rfl) ?_
    refine v_callV hX (As := [.int (iI ((sp2 : Int))), .ref (w.1 14 24)]) (rest := []) (c_X8_number (xl X) w s3 hk0 sp2 (by omega) (A.1 sp2) ((hM.1.fg hG3).1 sp2 (by omega)).1 (hM.1.by (by omega)) 24 (hQ 24 (by simp [mn, tp])) (hA3 24)) lk_X8_271 hk0 (fun _ => rfl) rfl rfl rfl (by rw [hR]; exact ⟨Nat.le_of_ble_eq_true rfl, Nat.le_of_ble_eq_true rfl⟩) ⟨Nat.zero_le _, Nat.zero_le _⟩ rfl (Nat.le_of_ble_eq_true rfl) (atL dAX8_key_0 22 rfl) (fun _ s4 e4 => ?_)
    obtain ⟨hw4, hf4⟩ := e4
    have hA4 := hA3.one hf4 hw4
    have hn4_26 := nm.fr hn3_26 hf4 (by decide) (by decide)
    have hn4_27 := nm.fr hw3 hf4 (by decide) (by decide)
    have hG4 := hG3.fr hf4 rfl (by decide)
    have hD4 := hD3.fr hf4 (by decide) (by decide) (by decide)
    have ht4 : s4 10 0 0 = 0 := by rw [hf4 10 0 (by decide)]; omega
    show V X _ w _ _ s4 []
    refine v_aload_n hX 0 rfl (atL dAX8_key_0 23 rfl) ?_
    refine gf_X8_126 hX hk0 (atL dAX8_key_0 24 rfl) ?_
    refine v_aload_n hX 0 rfl (atL dAX8_key_0 25 rfl) ?_
    refine gf_X8_135 hX hk0 (atL dAX8_key_0 26 rfl) ?_
    refine v_aload_n hX 0 rfl (atL dAX8_key_0 27 rfl) ?_
    refine gf_X8_138 hX hk0 (atL dAX8_key_0 28 rfl) ?_
    refine v_callN hX (As := [.ref (w.1 14 26), .ref (w.1 14 27)]) (rest := []) (c_X7_product (xl X) w s4 23 (hQ 23 (by simp [mn, tp])) (hA4 23) 26 (rv (A.1 sp0)) (hQ 26 (by simp [mn, tp])) hn4_26 27 (rv (A.1 sp1)) (hQ 27 (by simp [mn, tp])) hn4_27 (by omega) (by omega) 128 128 hbvsp0 hbvsp1 (by omega)) lk_X8_184 (hQ 23 (by simp [mn, tp])) (fun _ => rfl) rfl rfl rfl (by rw [hR]; exact ⟨Nat.le_of_ble_eq_true rfl, Nat.le_of_ble_eq_true rfl⟩) ⟨Nat.zero_le _, Nat.zero_le _⟩ rfl (Nat.le_of_ble_eq_true rfl) (atL dAX8_key_0 29 rfl) (fun _ s5 e5 => ?_)
    obtain ⟨hw5, hf5⟩ := e5
    have hb5 : lb ((rv (A.1 sp0)) * (rv (A.1 sp1))) 256 := n_mul_b hbvsp0 hbvsp1 (by omega)
    have hA5 := hA4.one hf5 hw5
    have hn5_26 := nm.fr hn4_26 hf5 (by decide) (by decide)
    have hn5_27 := nm.fr hn4_27 hf5 (by decide) (by decide)
    have hn5_24 := nm.fr hw4 hf5 (by decide) (by decide)
    have hG5 := hG4.fr hf5 rfl (by decide)
    have hD5 := hD4.fr hf5 (by decide) (by decide) (by decide)
    have ht5 : s5 10 0 0 = 0 := by rw [hf5 10 0 (by decide)]; omega
    show V X _ w _ _ s5 []
    refine v_aload_n hX 0 rfl (atL dAX8_key_0 30 rfl) ?_
    refine v_callV hX (As := []) (rest := []) (c_X8_isUnfit (xl X) w s5 hk0 ((rv (A.1 sp0)) * (rv (A.1 sp1))) hw5) lk_X8_361 hk0 (fun _ => rfl) rfl rfl rfl (by rw [hR]; exact ⟨Nat.le_of_ble_eq_true rfl, Nat.le_of_ble_eq_true rfl⟩) ⟨Nat.zero_le _, Nat.zero_le _⟩ rfl (Nat.le_of_ble_eq_true rfl) (atL dAX8_key_0 31 rfl) (fun r6 z6 g6 => ?_)
    obtain ⟨gc6, gb6⟩ := g6
    rw [gb6]
    have gd6 : r6 = 0 ∨ r6 = 1 := by rcases gc6 with q | q <;> omega
    show V X _ w _ _ s5 [.int (iI (r6))]
    refine v_if_eq hX ⟨by omega, by omega⟩ (tgt := 63) (atL dAX8_key_0 32 rfl) (by decide) (fun h58 => ?_) (fun h58 => ?_)
    · have hfit : fitN (rv (A.1 sp0) * rv (A.1 sp1)) := Classical.not_not.mp (gc6.f h58)
      refine v_aload_n hX 0 rfl (atL dAX8_key_0 35 rfl) ?_
      refine gf_X8_135 hX hk0 (atL dAX8_key_0 36 rfl) ?_
      refine v_iconst hX (atL dAX8_key_0 37 rfl) ?_
      refine v_callN hX (As := [.int (iI (2))]) (rest := []) (c_X7_is (xl X) w s5 26 (rv (A.1 sp0)) (hQ 26 (by simp [mn, tp])) hn5_26 2 (by omega)) lk_X8_200 (hQ 26 (by simp [mn, tp])) (fun _ => rfl) rfl rfl rfl (by rw [hR]; exact ⟨Nat.le_of_ble_eq_true rfl, Nat.le_of_ble_eq_true rfl⟩) ⟨Nat.zero_le _, Nat.zero_le _⟩ rfl (Nat.le_of_ble_eq_true rfl) (atL dAX8_key_0 38 rfl) (fun r7 z7 g7 => ?_)
      obtain ⟨gc7, gb7⟩ := g7
      rw [gb7]
      have gd7 : r7 = 0 ∨ r7 = 1 := by rcases gc7 with q | q <;> omega
      show V X _ w _ _ s5 [.int (iI (r7))]
      refine v_if_ne hX ⟨by omega, by omega⟩ (tgt := 127) (atL dAX8_key_0 39 rfl) (by decide) (fun h71 => ?_) (fun h71 => ?_)
      · refine v_bipush hX (by decide +kernel) (atL dAX8_key_1 3 rfl) ?_
        exact v_iret hX (atL dAX8_key_1 4 rfl) (hret _ _ ⟨A, Or.inr ⟨by omega, Or.inl ⟨_, by rw [Int.toNat_natCast, Int.toNat_natCast]; exact (Or.inr (Or.inl ⟨rfl, hfit, fun q => q.1 (gc7.t h71)⟩)), by decide, by rw [show s5 10 0 0 = 0 by omega]⟩⟩, ⟨(hM.1.fg hG5), hA5, hD5⟩, hG5.fc⟩)
      · refine v_aload_n hX 0 rfl (atL dAX8_key_0 40 rfl) ?_
        refine gf_X8_138 hX hk0 (atL dAX8_key_0 41 rfl) ?_
        refine v_iconst hX (atL dAX8_key_0 42 rfl) ?_
        refine v_callN hX (As := [.int (iI (2))]) (rest := []) (c_X7_is (xl X) w s5 27 (rv (A.1 sp1)) (hQ 27 (by simp [mn, tp])) hn5_27 2 (by omega)) lk_X8_200 (hQ 27 (by simp [mn, tp])) (fun _ => rfl) rfl rfl rfl (by rw [hR]; exact ⟨Nat.le_of_ble_eq_true rfl, Nat.le_of_ble_eq_true rfl⟩) ⟨Nat.zero_le _, Nat.zero_le _⟩ rfl (Nat.le_of_ble_eq_true rfl) (atL dAX8_key_0 43 rfl) (fun r8 z8 g8 => ?_)
        obtain ⟨gc8, gb8⟩ := g8
        rw [gb8]
        have gd8 : r8 = 0 ∨ r8 = 1 := by rcases gc8 with q | q <;> omega
        show V X _ w _ _ s5 [.int (iI (r8))]
        refine v_if_ne hX ⟨by omega, by omega⟩ (tgt := 127) (atL dAX8_key_0 44 rfl) (by decide) (fun h82 => ?_) (fun h82 => ?_)
        · refine v_bipush hX (by decide +kernel) (atL dAX8_key_1 3 rfl) ?_
          exact v_iret hX (atL dAX8_key_1 4 rfl) (hret _ _ ⟨A, Or.inr ⟨by omega, Or.inl ⟨_, by rw [Int.toNat_natCast, Int.toNat_natCast]; exact (Or.inr (Or.inl ⟨rfl, hfit, fun q => q.2.1 (gc8.t h82)⟩)), by decide, by rw [show s5 10 0 0 = 0 by omega]⟩⟩, ⟨(hM.1.fg hG5), hA5, hD5⟩, hG5.fc⟩)
        · refine v_aload_n hX 0 rfl (atL dAX8_key_0 45 rfl) ?_
          refine gf_X8_135 hX hk0 (atL dAX8_key_0 46 rfl) ?_
          refine v_callS hX (As := [.ref (w.1 14 26)]) (rest := []) (c_X8_isFew (xl X) w s5 26 (rv (A.1 sp0)) (hQ 26 (by simp [mn, tp])) hn5_26) lk_X8_292 rfl (by rw [hR]; exact ⟨Nat.le_of_ble_eq_true rfl, Nat.le_of_ble_eq_true rfl⟩) ⟨Nat.zero_le _, Nat.zero_le _⟩ rfl (Nat.le_of_ble_eq_true rfl) (atL dAX8_key_0 47 rfl) (fun r9 z9 g9 => ?_)
          obtain ⟨gc9, gb9⟩ := g9
          rw [gb9]
          have gd9 : r9 = 0 ∨ r9 = 1 := by rcases gc9 with q | q <;> omega
          show V X _ w _ _ s5 [.int (iI (r9))]
          refine v_if_eq hX ⟨by omega, by omega⟩ (tgt := 127) (atL dAX8_key_0 48 rfl) (by decide) (fun h92 => ?_) (fun h92 => ?_)
          · refine v_bipush hX (by decide +kernel) (atL dAX8_key_1 3 rfl) ?_
            exact v_iret hX (atL dAX8_key_1 4 rfl) (hret _ _ ⟨A, Or.inr ⟨by omega, Or.inl ⟨_, by rw [Int.toNat_natCast, Int.toNat_natCast]; exact (Or.inr (Or.inl ⟨rfl, hfit, fun q => gc9.f h92 q.2.2.1.1⟩)), by decide, by rw [show s5 10 0 0 = 0 by omega]⟩⟩, ⟨(hM.1.fg hG5), hA5, hD5⟩, hG5.fc⟩)
          · refine v_aload_n hX 0 rfl (atL dAX8_key_0 49 rfl) ?_
            refine gf_X8_138 hX hk0 (atL dAX8_key_0 50 rfl) ?_
            refine v_callS hX (As := [.ref (w.1 14 27)]) (rest := []) (c_X8_isFew (xl X) w s5 27 (rv (A.1 sp1)) (hQ 27 (by simp [mn, tp])) hn5_27) lk_X8_292 rfl (by rw [hR]; exact ⟨Nat.le_of_ble_eq_true rfl, Nat.le_of_ble_eq_true rfl⟩) ⟨Nat.zero_le _, Nat.zero_le _⟩ rfl (Nat.le_of_ble_eq_true rfl) (atL dAX8_key_0 51 rfl) (fun r10 z10 g10 => ?_)
            obtain ⟨gc10, gb10⟩ := g10
            rw [gb10]
            have gd10 : r10 = 0 ∨ r10 = 1 := by rcases gc10 with q | q <;> omega
            show V X _ w _ _ s5 [.int (iI (r10))]
            refine v_if_eq hX ⟨by omega, by omega⟩ (tgt := 127) (atL dAX8_key_0 52 rfl) (by decide) (fun h102 => ?_) (fun h102 => ?_)
            · refine v_bipush hX (by decide +kernel) (atL dAX8_key_1 3 rfl) ?_
              exact v_iret hX (atL dAX8_key_1 4 rfl) (hret _ _ ⟨A, Or.inr ⟨by omega, Or.inl ⟨_, by rw [Int.toNat_natCast, Int.toNat_natCast]; exact (Or.inr (Or.inl ⟨rfl, hfit, fun q => gc10.f h102 q.2.2.2.1⟩)), by decide, by rw [show s5 10 0 0 = 0 by omega]⟩⟩, ⟨(hM.1.fg hG5), hA5, hD5⟩, hG5.fc⟩)
            · refine v_aload_n hX 0 rfl (atL dAX8_key_0 53 rfl) ?_
              refine v_aload_n hX 0 rfl (atL dAX8_key_0 54 rfl) ?_
              refine gf_X8_135 hX hk0 (atL dAX8_key_0 55 rfl) ?_
              refine v_callV hX (As := [.ref (w.1 14 26)]) (rest := []) (c_X8_isProbable (xl X) w s5 hk0 hA5 26 (rv (A.1 sp0)) (hQ 26 (by simp [mn, tp])) hn5_26 (n_mono hbvsp0 (by omega)) (by omega)) lk_X8_296 hk0 (fun _ => rfl) rfl rfl rfl (by rw [hR]; exact ⟨Nat.le_of_ble_eq_true rfl, Nat.le_of_ble_eq_true rfl⟩) ⟨Nat.zero_le _, Nat.zero_le _⟩ rfl (Nat.le_of_ble_eq_true rfl) (atL dAX8_key_0 56 rfl) (fun r11 s11 e11 => ?_)
              obtain ⟨gc11, hAp11, hf11⟩ := e11
              have gd11 : r11 = 0 ∨ r11 = 1 := by rcases gc11 with q | q <;> omega
              have hA11 := hAp11
              have hn11_26 := nm.fr hn5_26 hf11 (by decide) (by decide)
              have hn11_27 := nm.fr hn5_27 hf11 (by decide) (by decide)
              have hn11_24 := nm.fr hn5_24 hf11 (by decide) (by decide)
              have hn11_23 := nm.fr hw5 hf11 (by decide) (by decide)
              have hG11 := hG5.fr hf11 rfl (by decide)
              have hD11 := hD5.fr hf11 (by decide) (by decide) (by decide)
              have ht11 : s11 10 0 0 = 0 := by rw [hf11 10 0 (by decide)]; omega
              show V X _ w _ _ s11 [.int (iI (r11))]
              refine v_if_eq hX ⟨by omega, by omega⟩ (tgt := 127) (atL dAX8_key_0 57 rfl) (by decide) (fun h113 => ?_) (fun h113 => ?_)
              · refine v_bipush hX (by decide +kernel) (atL dAX8_key_1 3 rfl) ?_
                exact v_iret hX (atL dAX8_key_1 4 rfl) (hret _ _ ⟨A, Or.inr ⟨by omega, Or.inl ⟨_, by rw [Int.toNat_natCast, Int.toNat_natCast]; exact (Or.inr (Or.inl ⟨rfl, hfit, fun q => gc11.f h113 q.2.2.1.2⟩)), by decide, by rw [show s11 10 0 0 = 0 by omega]⟩⟩, ⟨(hM.1.fg hG11), hA11, hD11⟩, hG11.fc⟩)
              · refine v_aload_n hX 0 rfl (atL dAX8_key_0 58 rfl) ?_
                refine v_aload_n hX 0 rfl (atL dAX8_key_0 59 rfl) ?_
                refine gf_X8_138 hX hk0 (atL dAX8_key_1 0 rfl) ?_
                refine v_callV hX (As := [.ref (w.1 14 27)]) (rest := []) (c_X8_isProbable (xl X) w s11 hk0 hA11 27 (rv (A.1 sp1)) (hQ 27 (by simp [mn, tp])) hn11_27 (n_mono hbvsp1 (by omega)) (by omega)) lk_X8_296 hk0 (fun _ => rfl) rfl rfl rfl (by rw [hR]; exact ⟨Nat.le_of_ble_eq_true rfl, Nat.le_of_ble_eq_true rfl⟩) ⟨Nat.zero_le _, Nat.zero_le _⟩ rfl (Nat.le_of_ble_eq_true rfl) (atL dAX8_key_1 1 rfl) (fun r12 s12 e12 => ?_)
                obtain ⟨gc12, hAp12, hf12⟩ := e12
                have gd12 : r12 = 0 ∨ r12 = 1 := by rcases gc12 with q | q <;> omega
                have hA12 := hAp12
                have hn12_26 := nm.fr hn11_26 hf12 (by decide) (by decide)
                have hn12_27 := nm.fr hn11_27 hf12 (by decide) (by decide)
                have hn12_24 := nm.fr hn11_24 hf12 (by decide) (by decide)
                have hn12_23 := nm.fr hn11_23 hf12 (by decide) (by decide)
                have hG12 := hG11.fr hf12 rfl (by decide)
                have hD12 := hD11.fr hf12 (by decide) (by decide) (by decide)
                have ht12 : s12 10 0 0 = 0 := by rw [hf12 10 0 (by decide)]; omega
                show V X _ w _ _ s12 [.int (iI (r12))]
                refine v_if_ne hX ⟨by omega, by omega⟩ (tgt := 130) (atL dAX8_key_1 2 rfl) (by decide) (fun h124 => ?_) (fun h124 => ?_)
                · have hPQ : PQ (rv (A.1 sp0)) (rv (A.1 sp1)) := ⟨gc7.f h71, gc8.f h82, ⟨gc9.t h92, gc11.t h113⟩, ⟨gc10.t h102, gc12.t h124⟩⟩
                  have hp3 := pb_3 hPQ.2.2.1.2 hPQ.1
                  have hq3 := pb_3 hPQ.2.2.2.2 hPQ.2.1
                  have hnb : lb (rv (A.1 sp0) * rv (A.1 sp1)) 64 := nby_lb hfit.2
                  refine v_aload_n hX 0 rfl (atL dAX8_key_1 5 rfl) ?_
                  refine v_aload_n hX 0 rfl (atL dAX8_key_1 6 rfl) ?_
                  refine gf_X8_135 hX hk0 (atL dAX8_key_1 7 rfl) ?_
                  refine v_aload_n hX 0 rfl (atL dAX8_key_1 8 rfl) ?_
                  refine gf_X8_138 hX hk0 (atL dAX8_key_1 9 rfl) ?_
                  refine v_aload_n hX 0 rfl (atL dAX8_key_1 10 rfl) ?_
                  refine gf_X8_89 hX hk0 (atL dAX8_key_1 11 rfl) ?_
                  refine v_callV hX (As := [.ref (w.1 14 26), .ref (w.1 14 27), .ref (w.1 14 21)]) (rest := []) (c_X8_common (xl X) w s12 hk0 hA12 26 (rv (A.1 sp0)) (hQ 26 (by simp [mn, tp])) hn12_26 (n_mono hbvsp0 (by omega)) (by omega) 27 (rv (A.1 sp1)) (hQ 27 (by simp [mn, tp])) hn12_27 (n_mono hbvsp1 (by omega)) (by omega) 21 (hQ 21 (by simp [mn, tp])) (by omega)) lk_X8_279 hk0 (fun _ => rfl) rfl rfl rfl (by rw [hR]; exact ⟨Nat.le_of_ble_eq_true rfl, Nat.le_of_ble_eq_true rfl⟩) ⟨Nat.zero_le _, Nat.zero_le _⟩ rfl (Nat.le_of_ble_eq_true rfl) (atL dAX8_key_1 12 rfl) (fun _ s13 e13 => ?_)
                  obtain ⟨hw13, hAp13, hf13⟩ := e13
                  have hb13 : lb (Nat.gcd (rv (A.1 sp0)) (rv (A.1 sp1))) 128 := n_gcd_b (n_mono hbvsp0 (by omega)) (n_mono hbvsp1 (by omega))
                  have hA13 := hAp13
                  have hn13_26 := nm.fr hn12_26 hf13 (by decide) (by decide)
                  have hn13_27 := nm.fr hn12_27 hf13 (by decide) (by decide)
                  have hn13_24 := nm.fr hn12_24 hf13 (by decide) (by decide)
                  have hn13_23 := nm.fr hn12_23 hf13 (by decide) (by decide)
                  have hG13 := hG12.fr hf13 rfl (by decide)
                  have hD13 := hD12.fr hf13 (by decide) (by decide) (by decide)
                  have ht13 : s13 10 0 0 = 0 := by rw [hf13 10 0 (by decide)]; omega
                  show V X _ w _ _ s13 []
                  refine v_aload_n hX 0 rfl (atL dAX8_key_1 13 rfl) ?_
                  refine gf_X8_89 hX hk0 (atL dAX8_key_1 14 rfl) ?_
                  refine v_iconst hX (atL dAX8_key_1 15 rfl) ?_
                  refine v_callN hX (As := [.int (iI (1))]) (rest := []) (c_X7_is (xl X) w s13 21 (Nat.gcd (rv (A.1 sp0)) (rv (A.1 sp1))) (hQ 21 (by simp [mn, tp])) hw13 1 (by omega)) lk_X8_200 (hQ 21 (by simp [mn, tp])) (fun _ => rfl) rfl rfl rfl (by rw [hR]; exact ⟨Nat.le_of_ble_eq_true rfl, Nat.le_of_ble_eq_true rfl⟩) ⟨Nat.zero_le _, Nat.zero_le _⟩ rfl (Nat.le_of_ble_eq_true rfl) (atL dAX8_key_1 16 rfl) (fun r14 z14 g14 => ?_)
                  obtain ⟨gc14, gb14⟩ := g14
                  rw [gb14]
                  have gd14 : r14 = 0 ∨ r14 = 1 := by rcases gc14 with q | q <;> omega
                  show V X _ w _ _ s13 [.int (iI (r14))]
                  refine v_if_ne hX ⟨by omega, by omega⟩ (tgt := 160) (atL dAX8_key_1 17 rfl) (by decide) (fun h154 => ?_) (fun h154 => ?_)
                  · have hgpq : Nat.gcd (rv (A.1 sp0)) (rv (A.1 sp1)) = 1 := gc14.t h154
                    have hRP : RP (rv (A.1 sp0)) (rv (A.1 sp1)) 0 := Or.inr (Or.inr (Or.inr ⟨rfl, hfit, hPQ, hgpq⟩))
                    refine v_aload_n hX 0 rfl (atL dAX8_key_1 20 rfl) ?_
                    refine v_callV hX (As := []) (rest := []) (c_X8_isRefused (xl X) w s13 hk0 (rv (A.1 sp2)) ((rv (A.1 sp0)) * (rv (A.1 sp1))) hn13_24 hn13_23) lk_X8_364 hk0 (fun _ => rfl) rfl rfl rfl (by rw [hR]; exact ⟨Nat.le_of_ble_eq_true rfl, Nat.le_of_ble_eq_true rfl⟩) ⟨Nat.zero_le _, Nat.zero_le _⟩ rfl (Nat.le_of_ble_eq_true rfl) (atL dAX8_key_1 21 rfl) (fun r15 z15 g15 => ?_)
                    obtain ⟨gc15, gb15⟩ := g15
                    rw [gb15]
                    have gd15 : r15 = 0 ∨ r15 = 1 := by rcases gc15 with q | q <;> omega
                    show V X _ w _ _ s13 [.int (iI (r15))]
                    refine v_if_eq hX ⟨by omega, by omega⟩ (tgt := 170) (atL dAX8_key_1 22 rfl) (by decide) (fun h164 => ?_) (fun h164 => ?_)
                    · have hxe : XE (rv (A.1 sp2)) (rv (A.1 sp0) * rv (A.1 sp1)) := Classical.not_not.mp (gc15.f h164)
                      have hen : nby (rv (A.1 sp2)) ≤ 128 := Nat.le_trans (nby_mono (Nat.le_of_lt hxe.2.2)) hfit.2
                      refine v_aload_n hX 0 rfl (atL dAX8_key_1 25 rfl) ?_
                      refine gf_X8_52 hX hk0 (atL dAX8_key_1 26 rfl) ?_
                      refine v_iconst hX (atL dAX8_key_1 27 rfl) ?_
                      refine v_callN hX (As := [.int (iI (1))]) (rest := []) (c_X7_set (xl X) w s13 13 (hQ 13 (by simp [mn, tp])) (hA13 13) 1 (by omega)) lk_X8_196 (hQ 13 (by simp [mn, tp])) (fun _ => rfl) rfl rfl rfl (by rw [hR]; exact ⟨Nat.le_of_ble_eq_true rfl, Nat.le_of_ble_eq_true rfl⟩) ⟨Nat.zero_le _, Nat.zero_le _⟩ rfl (Nat.le_of_ble_eq_true rfl) (atL dAX8_key_1 28 rfl) (fun _ s16 e16 => ?_)
                      obtain ⟨hw16, hf16⟩ := e16
                      have hA16 := hA13.one hf16 hw16
                      have hn16_26 := nm.fr hn13_26 hf16 (by decide) (by decide)
                      have hn16_27 := nm.fr hn13_27 hf16 (by decide) (by decide)
                      have hn16_24 := nm.fr hn13_24 hf16 (by decide) (by decide)
                      have hn16_23 := nm.fr hn13_23 hf16 (by decide) (by decide)
                      have hn16_21 := nm.fr hw13 hf16 (by decide) (by decide)
                      have hG16 := hG13.fr hf16 rfl (by decide)
                      have hD16 := hD13.fr hf16 (by decide) (by decide) (by decide)
                      have ht16 : s16 10 0 0 = 0 := by rw [hf16 10 0 (by decide)]; omega
                      show V X _ w _ _ s16 []
                      refine v_aload_n hX 0 rfl (atL dAX8_key_1 29 rfl) ?_
                      refine gf_X8_141 hX hk0 (atL dAX8_key_1 30 rfl) ?_
                      refine v_aload_n hX 0 rfl (atL dAX8_key_1 31 rfl) ?_
                      refine gf_X8_135 hX hk0 (atL dAX8_key_1 32 rfl) ?_
                      refine v_callN hX (As := [.ref (w.1 14 26)]) (rest := []) (c_X7_take (xl X) w s16 28 (hQ 28 (by simp [mn, tp])) (hA16 28) 26 (rv (A.1 sp0)) (hQ 26 (by simp [mn, tp])) hn16_26) lk_X8_192 (hQ 28 (by simp [mn, tp])) (fun _ => rfl) rfl rfl rfl (by rw [hR]; exact ⟨Nat.le_of_ble_eq_true rfl, Nat.le_of_ble_eq_true rfl⟩) ⟨Nat.zero_le _, Nat.zero_le _⟩ rfl (Nat.le_of_ble_eq_true rfl) (atL dAX8_key_1 33 rfl) (fun _ s17 e17 => ?_)
                      obtain ⟨hw17, hf17⟩ := e17
                      have hA17 := hA16.one hf17 hw17
                      have hn17_26 := nm.fr hn16_26 hf17 (by decide) (by decide)
                      have hn17_27 := nm.fr hn16_27 hf17 (by decide) (by decide)
                      have hn17_24 := nm.fr hn16_24 hf17 (by decide) (by decide)
                      have hn17_23 := nm.fr hn16_23 hf17 (by decide) (by decide)
                      have hn17_21 := nm.fr hn16_21 hf17 (by decide) (by decide)
                      have hn17_13 := nm.fr hw16 hf17 (by decide) (by decide)
                      have hG17 := hG16.fr hf17 rfl (by decide)
                      have hD17 := hD16.fr hf17 (by decide) (by decide) (by decide)
                      have ht17 : s17 10 0 0 = 0 := by rw [hf17 10 0 (by decide)]; omega
                      show V X _ w _ _ s17 []
                      refine v_aload_n hX 0 rfl (atL dAX8_key_1 34 rfl) ?_
                      refine gf_X8_141 hX hk0 (atL dAX8_key_1 35 rfl) ?_
                      refine v_aload_n hX 0 rfl (atL dAX8_key_1 36 rfl) ?_
                      refine gf_X8_52 hX hk0 (atL dAX8_key_1 37 rfl) ?_
                      refine v_callN hX (As := [.ref (w.1 14 13)]) (rest := []) (c_X7_less (xl X) w s17 28 (rv (A.1 sp0)) (hQ 28 (by simp [mn, tp])) hw17 13 1 (hQ 13 (by simp [mn, tp])) hn17_13 (by omega) (by omega)) lk_X8_214 (hQ 28 (by simp [mn, tp])) (fun _ => rfl) rfl rfl rfl (by rw [hR]; exact ⟨Nat.le_of_ble_eq_true rfl, Nat.le_of_ble_eq_true rfl⟩) ⟨Nat.zero_le _, Nat.zero_le _⟩ rfl (Nat.le_of_ble_eq_true rfl) (atL dAX8_key_1 38 rfl) (fun _ s18 e18 => ?_)
                      obtain ⟨hw18, hf18⟩ := e18
                      have hA18 := hA17.one hf18 hw18
                      have hn18_26 := nm.fr hn17_26 hf18 (by decide) (by decide)
                      have hn18_27 := nm.fr hn17_27 hf18 (by decide) (by decide)
                      have hn18_24 := nm.fr hn17_24 hf18 (by decide) (by decide)
                      have hn18_23 := nm.fr hn17_23 hf18 (by decide) (by decide)
                      have hn18_21 := nm.fr hn17_21 hf18 (by decide) (by decide)
                      have hn18_13 := nm.fr hn17_13 hf18 (by decide) (by decide)
                      have hG18 := hG17.fr hf18 rfl (by decide)
                      have hD18 := hD17.fr hf18 (by decide) (by decide) (by decide)
                      have ht18 : s18 10 0 0 = 0 := by rw [hf18 10 0 (by decide)]; omega
                      show V X _ w _ _ s18 []
                      refine v_aload_n hX 0 rfl (atL dAX8_key_1 39 rfl) ?_
                      refine gf_X8_144 hX hk0 (atL dAX8_key_1 40 rfl) ?_
                      refine v_aload_n hX 0 rfl (atL dAX8_key_1 41 rfl) ?_
                      refine gf_X8_138 hX hk0 (atL dAX8_key_1 42 rfl) ?_
                      refine v_callN hX (As := [.ref (w.1 14 27)]) (rest := []) (c_X7_take (xl X) w s18 29 (hQ 29 (by simp [mn, tp])) (hA18 29) 27 (rv (A.1 sp1)) (hQ 27 (by simp [mn, tp])) hn18_27) lk_X8_192 (hQ 29 (by simp [mn, tp])) (fun _ => rfl) rfl rfl rfl (by rw [hR]; exact ⟨Nat.le_of_ble_eq_true rfl, Nat.le_of_ble_eq_true rfl⟩) ⟨Nat.zero_le _, Nat.zero_le _⟩ rfl (Nat.le_of_ble_eq_true rfl) (atL dAX8_key_1 43 rfl) (fun _ s19 e19 => ?_)
                      obtain ⟨hw19, hf19⟩ := e19
                      have hA19 := hA18.one hf19 hw19
                      have hn19_26 := nm.fr hn18_26 hf19 (by decide) (by decide)
                      have hn19_27 := nm.fr hn18_27 hf19 (by decide) (by decide)
                      have hn19_24 := nm.fr hn18_24 hf19 (by decide) (by decide)
                      have hn19_23 := nm.fr hn18_23 hf19 (by decide) (by decide)
                      have hn19_21 := nm.fr hn18_21 hf19 (by decide) (by decide)
                      have hn19_13 := nm.fr hn18_13 hf19 (by decide) (by decide)
                      have hn19_28 := nm.fr hw18 hf19 (by decide) (by decide)
                      have hG19 := hG18.fr hf19 rfl (by decide)
                      have hD19 := hD18.fr hf19 (by decide) (by decide) (by decide)
                      have ht19 : s19 10 0 0 = 0 := by rw [hf19 10 0 (by decide)]; omega
                      show V X _ w _ _ s19 []
                      refine v_aload_n hX 0 rfl (atL dAX8_key_1 44 rfl) ?_
                      refine gf_X8_144 hX hk0 (atL dAX8_key_1 45 rfl) ?_
                      refine v_aload_n hX 0 rfl (atL dAX8_key_1 46 rfl) ?_
                      refine gf_X8_52 hX hk0 (atL dAX8_key_1 47 rfl) ?_
                      refine v_callN hX (As := [.ref (w.1 14 13)]) (rest := []) (c_X7_less (xl X) w s19 29 (rv (A.1 sp1)) (hQ 29 (by simp [mn, tp])) hw19 13 1 (hQ 13 (by simp [mn, tp])) hn19_13 (by omega) (by omega)) lk_X8_214 (hQ 29 (by simp [mn, tp])) (fun _ => rfl) rfl rfl rfl (by rw [hR]; exact ⟨Nat.le_of_ble_eq_true rfl, Nat.le_of_ble_eq_true rfl⟩) ⟨Nat.zero_le _, Nat.zero_le _⟩ rfl (Nat.le_of_ble_eq_true rfl) (atL dAX8_key_1 48 rfl) (fun _ s20 e20 => ?_)
                      obtain ⟨hw20, hf20⟩ := e20
                      have hA20 := hA19.one hf20 hw20
                      have hn20_26 := nm.fr hn19_26 hf20 (by decide) (by decide)
                      have hn20_27 := nm.fr hn19_27 hf20 (by decide) (by decide)
                      have hn20_24 := nm.fr hn19_24 hf20 (by decide) (by decide)
                      have hn20_23 := nm.fr hn19_23 hf20 (by decide) (by decide)
                      have hn20_21 := nm.fr hn19_21 hf20 (by decide) (by decide)
                      have hn20_13 := nm.fr hn19_13 hf20 (by decide) (by decide)
                      have hn20_28 := nm.fr hn19_28 hf20 (by decide) (by decide)
                      have hG20 := hG19.fr hf20 rfl (by decide)
                      have hD20 := hD19.fr hf20 (by decide) (by decide) (by decide)
                      have ht20 : s20 10 0 0 = 0 := by rw [hf20 10 0 (by decide)]; omega
                      show V X _ w _ _ s20 []
                      refine v_aload_n hX 0 rfl (atL dAX8_key_1 49 rfl) ?_
                      refine v_aload_n hX 0 rfl (atL dAX8_key_1 50 rfl) ?_
                      refine gf_X8_129 hX hk0 (atL dAX8_key_1 51 rfl) ?_
                      refine v_aload_n hX 0 rfl (atL dAX8_key_1 52 rfl) ?_
                      refine gf_X8_141 hX hk0 (atL dAX8_key_1 53 rfl) ?_
                      refine v_aload_n hX 0 rfl (atL dAX8_key_1 54 rfl) ?_
                      refine gf_X8_89 hX hk0 (atL dAX8_key_1 55 rfl) ?_
                      refine v_callV hX (As := [.ref (w.1 14 24), .ref (w.1 14 28), .ref (w.1 14 21)]) (rest := []) (c_X8_common (xl X) w s20 hk0 hA20 24 (rv (A.1 sp2)) (hQ 24 (by simp [mn, tp])) hn20_24 (n_mono hbvsp2 (by omega)) (by omega) 28 (rv (A.1 sp0) - 1) (hQ 28 (by simp [mn, tp])) hn20_28 (n_mono (lb_le hbvsp0 (Nat.sub_le _ _)) (by omega)) (by omega) 21 (hQ 21 (by simp [mn, tp])) (by omega)) lk_X8_279 hk0 (fun _ => rfl) rfl rfl rfl (by rw [hR]; exact ⟨Nat.le_of_ble_eq_true rfl, Nat.le_of_ble_eq_true rfl⟩) ⟨Nat.zero_le _, Nat.zero_le _⟩ rfl (Nat.le_of_ble_eq_true rfl) (atL dAX8_key_1 56 rfl) (fun _ s21 e21 => ?_)
                      obtain ⟨hw21, hAp21, hf21⟩ := e21
                      have hb21 : lb (Nat.gcd (rv (A.1 sp2)) (rv (A.1 sp0) - 1)) 128 := n_gcd_b (n_mono hbvsp2 (by omega)) (n_mono (lb_le hbvsp0 (Nat.sub_le _ _)) (by omega))
                      have hA21 := hAp21
                      have hn21_26 := nm.fr hn20_26 hf21 (by decide) (by decide)
                      have hn21_27 := nm.fr hn20_27 hf21 (by decide) (by decide)
                      have hn21_24 := nm.fr hn20_24 hf21 (by decide) (by decide)
                      have hn21_23 := nm.fr hn20_23 hf21 (by decide) (by decide)
                      have hn21_13 := nm.fr hn20_13 hf21 (by decide) (by decide)
                      have hn21_28 := nm.fr hn20_28 hf21 (by decide) (by decide)
                      have hn21_29 := nm.fr hw20 hf21 (by decide) (by decide)
                      have hG21 := hG20.fr hf21 rfl (by decide)
                      have hD21 := hD20.fr hf21 (by decide) (by decide) (by decide)
                      have ht21 : s21 10 0 0 = 0 := by rw [hf21 10 0 (by decide)]; omega
                      show V X _ w _ _ s21 []
                      refine v_aload_n hX 0 rfl (atL dAX8_key_1 57 rfl) ?_
                      refine gf_X8_89 hX hk0 (atL dAX8_key_1 58 rfl) ?_
                      refine v_iconst hX (atL dAX8_key_1 59 rfl) ?_
                      refine v_callN hX (As := [.int (iI (1))]) (rest := []) (c_X7_is (xl X) w s21 21 (Nat.gcd (rv (A.1 sp2)) (rv (A.1 sp0) - 1)) (hQ 21 (by simp [mn, tp])) hw21 1 (by omega)) lk_X8_200 (hQ 21 (by simp [mn, tp])) (fun _ => rfl) rfl rfl rfl (by rw [hR]; exact ⟨Nat.le_of_ble_eq_true rfl, Nat.le_of_ble_eq_true rfl⟩) ⟨Nat.zero_le _, Nat.zero_le _⟩ rfl (Nat.le_of_ble_eq_true rfl) (atL dAX8_key_2 0 rfl) (fun r22 z22 g22 => ?_)
                      obtain ⟨gc22, gb22⟩ := g22
                      rw [gb22]
                      have gd22 : r22 = 0 ∨ r22 = 1 := by rcases gc22 with q | q <;> omega
                      show V X _ w _ _ s21 [.int (iI (r22))]
                      refine v_istore hX (lv' := [(4, .int (iI (r22))), (0, .ref (w.1 13 0)), (1, .int (iI ((sp0 : Int)))), (2, .int (iI ((sp1 : Int)))), (3, .int (iI ((sp2 : Int))))]) (Nat.le_of_ble_eq_true rfl) rfl (atL dAX8_key_2 1 rfl) ?_
                      refine v_aload_n hX 1 rfl (atL dAX8_key_2 2 rfl) ?_
                      refine v_aload_n hX 1 rfl (atL dAX8_key_2 3 rfl) ?_
                      refine gf_X8_129 hX hk0 (atL dAX8_key_2 4 rfl) ?_
                      refine v_aload_n hX 1 rfl (atL dAX8_key_2 5 rfl) ?_
                      refine gf_X8_144 hX hk0 (atL dAX8_key_2 6 rfl) ?_
                      refine v_aload_n hX 1 rfl (atL dAX8_key_2 7 rfl) ?_
                      refine gf_X8_89 hX hk0 (atL dAX8_key_2 8 rfl) ?_
                      refine v_callV hX (As := [.ref (w.1 14 24), .ref (w.1 14 29), .ref (w.1 14 21)]) (rest := []) (c_X8_common (xl X) w s21 hk0 hA21 24 (rv (A.1 sp2)) (hQ 24 (by simp [mn, tp])) hn21_24 (n_mono hbvsp2 (by omega)) (by omega) 29 (rv (A.1 sp1) - 1) (hQ 29 (by simp [mn, tp])) hn21_29 (n_mono (lb_le hbvsp1 (Nat.sub_le _ _)) (by omega)) (by omega) 21 (hQ 21 (by simp [mn, tp])) (by omega)) lk_X8_279 hk0 (fun _ => rfl) rfl rfl rfl (by rw [hR]; exact ⟨Nat.le_of_ble_eq_true rfl, Nat.le_of_ble_eq_true rfl⟩) ⟨Nat.zero_le _, Nat.zero_le _⟩ rfl (Nat.le_of_ble_eq_true rfl) (atL dAX8_key_2 9 rfl) (fun _ s23 e23 => ?_)
                      obtain ⟨hw23, hAp23, hf23⟩ := e23
                      have hb23 : lb (Nat.gcd (rv (A.1 sp2)) (rv (A.1 sp1) - 1)) 128 := n_gcd_b (n_mono hbvsp2 (by omega)) (n_mono (lb_le hbvsp1 (Nat.sub_le _ _)) (by omega))
                      have hA23 := hAp23
                      have hn23_26 := nm.fr hn21_26 hf23 (by decide) (by decide)
                      have hn23_27 := nm.fr hn21_27 hf23 (by decide) (by decide)
                      have hn23_24 := nm.fr hn21_24 hf23 (by decide) (by decide)
                      have hn23_23 := nm.fr hn21_23 hf23 (by decide) (by decide)
                      have hn23_13 := nm.fr hn21_13 hf23 (by decide) (by decide)
                      have hn23_28 := nm.fr hn21_28 hf23 (by decide) (by decide)
                      have hn23_29 := nm.fr hn21_29 hf23 (by decide) (by decide)
                      have hG23 := hG21.fr hf23 rfl (by decide)
                      have hD23 := hD21.fr hf23 (by decide) (by decide) (by decide)
                      have ht23 : s23 10 0 0 = 0 := by rw [hf23 10 0 (by decide)]; omega
                      show V X _ w _ _ s23 []
                      refine v_iload hX 0 rfl (atL dAX8_key_2 10 rfl) ?_
                      refine v_if_eq hX ⟨by omega, by omega⟩ (tgt := 280) (atL dAX8_key_2 11 rfl) (by decide) (fun h266 => ?_) (fun h266 => ?_)
                      · refine v_bipush hX (by decide +kernel) (atL dAX8_key_2 17 rfl) ?_
                        exact v_iret hX (atL dAX8_key_2 18 rfl) (hret _ _ ⟨A, Or.inr ⟨by omega, Or.inr ⟨by rw [Int.toNat_natCast, Int.toNat_natCast]; exact hRP, Or.inl ⟨_, by rw [Int.toNat_natCast, Int.toNat_natCast, Int.toNat_natCast]; exact (Or.inr (Or.inl ⟨rfl, hxe, fun q => gc22.f h266 q.1⟩)), by decide, by rw [show s23 10 0 0 = 0 by omega]⟩⟩⟩, ⟨(hM.1.fg hG23), hA23, hD23⟩, hG23.fc⟩)
                      · refine v_aload_n hX 1 rfl (atL dAX8_key_2 12 rfl) ?_
                        refine gf_X8_89 hX hk0 (atL dAX8_key_2 13 rfl) ?_
                        refine v_iconst hX (atL dAX8_key_2 14 rfl) ?_
                        refine v_callN hX (As := [.int (iI (1))]) (rest := []) (c_X7_is (xl X) w s23 21 (Nat.gcd (rv (A.1 sp2)) (rv (A.1 sp1) - 1)) (hQ 21 (by simp [mn, tp])) hw23 1 (by omega)) lk_X8_200 (hQ 21 (by simp [mn, tp])) (fun _ => rfl) rfl rfl rfl (by rw [hR]; exact ⟨Nat.le_of_ble_eq_true rfl, Nat.le_of_ble_eq_true rfl⟩) ⟨Nat.zero_le _, Nat.zero_le _⟩ rfl (Nat.le_of_ble_eq_true rfl) (atL dAX8_key_2 15 rfl) (fun r24 z24 g24 => ?_)
                        obtain ⟨gc24, gb24⟩ := g24
                        rw [gb24]
                        have gd24 : r24 = 0 ∨ r24 = 1 := by rcases gc24 with q | q <;> omega
                        show V X _ w _ _ s23 [.int (iI (r24))]
                        refine v_if_ne hX ⟨by omega, by omega⟩ (tgt := 283) (atL dAX8_key_2 16 rfl) (by decide) (fun h277 => ?_) (fun h277 => ?_)
                        · have hge1 : Nat.gcd (rv (A.1 sp2)) (rv (A.1 sp0) - 1) = 1 := gc22.t h266
                          have hge2 : Nat.gcd (rv (A.1 sp2)) (rv (A.1 sp1) - 1) = 1 := gc24.t h277
                          have hRE : RE (rv (A.1 sp2)) (rv (A.1 sp0) * rv (A.1 sp1)) (rv (A.1 sp0)) (rv (A.1 sp1)) 0 := Or.inr (Or.inr ⟨rfl, hxe, hge1, hge2⟩)
                          have hk16 := hM.1.2.2.2.1
                          have hLl : Nat.lcm (rv (A.1 sp0) - 1) (rv (A.1 sp1) - 1) ≤ rv (A.1 sp0) * rv (A.1 sp1) := Nat.le_trans (lcm_le2 (by omega) (by omega)) sub_mul_le
                          have hLb : lb (Nat.lcm (rv (A.1 sp0) - 1) (rv (A.1 sp1) - 1)) 64 := lb_le hnb hLl
                          have hL0 : Nat.lcm (rv (A.1 sp0) - 1) (rv (A.1 sp1) - 1) ≠ 0 := lcm_pos2 (by omega) (by omega)
                          have hcop := cop_lcm hge1 hge2
                          refine v_aload_n hX 1 rfl (atL dAX8_key_2 19 rfl) ?_
                          refine gf_X8_358 hX (v := (A.2.1 : Int)) ((hM.1.fg hG23).2.2.1) hk0 (atL dAX8_key_2 20 rfl) ?_
                          refine v_bipush hX (by decide +kernel) (atL dAX8_key_2 21 rfl) ?_
                          refine v_icmp_ne hX ⟨by omega, by omega⟩ ⟨by omega, by omega⟩ (tgt := 295) (atL dAX8_key_2 22 rfl) (by decide) (fun h289 => ?_) (fun h289 => ?_)
                          · have hk15 : A.2.1 < 16 := by omega
                            have hn00 : rv (A.1 sp0) * rv (A.1 sp1) ≠ 0 := Nat.mul_ne_zero (by omega) (by omega)
                            refine v_aload_n hX 1 rfl (atL dAX8_key_2 25 rfl) ?_
                            refine v_aload_n hX 1 rfl (atL dAX8_key_2 26 rfl) ?_
                            refine gf_X8_141 hX hk0 (atL dAX8_key_2 27 rfl) ?_
                            refine v_aload_n hX 1 rfl (atL dAX8_key_2 28 rfl) ?_
                            refine gf_X8_144 hX hk0 (atL dAX8_key_2 29 rfl) ?_
                            refine v_aload_n hX 1 rfl (atL dAX8_key_2 30 rfl) ?_
                            refine gf_X8_89 hX hk0 (atL dAX8_key_2 31 rfl) ?_
                            refine v_callV hX (As := [.ref (w.1 14 28), .ref (w.1 14 29), .ref (w.1 14 21)]) (rest := []) (c_X8_multiple (xl X) w s23 hk0 hA23 28 (rv (A.1 sp0) - 1) (hQ 28 (by simp [mn, tp])) hn23_28 (n_mono (lb_le hbvsp0 (Nat.sub_le _ _)) (by omega)) (by omega) 29 (rv (A.1 sp1) - 1) (hQ 29 (by simp [mn, tp])) hn23_29 (n_mono (lb_le hbvsp1 (Nat.sub_le _ _)) (by omega)) (by omega) 21 (hQ 21 (by simp [mn, tp])) (by omega) (show rv (A.1 sp0) - 1 ≠ 0 by omega)) lk_X8_282 hk0 (fun _ => rfl) rfl rfl rfl (by rw [hR]; exact ⟨Nat.le_of_ble_eq_true rfl, Nat.le_of_ble_eq_true rfl⟩) ⟨Nat.zero_le _, Nat.zero_le _⟩ rfl (Nat.le_of_ble_eq_true rfl) (atL dAX8_key_2 32 rfl) (fun _ s25 e25 => ?_)
                            obtain ⟨hw25, hAp25, hf25⟩ := e25
                            have hb25 : lb (Nat.lcm (rv (A.1 sp0) - 1) (rv (A.1 sp1) - 1)) 256 := n_lcm_b (lb_le hbvsp0 (Nat.sub_le _ _)) (lb_le hbvsp1 (Nat.sub_le _ _))
                            have hA25 := hAp25
                            have hn25_26 := nm.fr hn23_26 hf25 (by decide) (by decide)
                            have hn25_27 := nm.fr hn23_27 hf25 (by decide) (by decide)
                            have hn25_24 := nm.fr hn23_24 hf25 (by decide) (by decide)
                            have hn25_23 := nm.fr hn23_23 hf25 (by decide) (by decide)
                            have hn25_13 := nm.fr hn23_13 hf25 (by decide) (by decide)
                            have hn25_28 := nm.fr hn23_28 hf25 (by decide) (by decide)
                            have hn25_29 := nm.fr hn23_29 hf25 (by decide) (by decide)
                            have hG25 := hG23.fr hf25 rfl (by decide)
                            have hD25 := hD23.fr hf25 (by decide) (by decide) (by decide)
                            have ht25 : s25 10 0 0 = 0 := by rw [hf25 10 0 (by decide)]; omega
                            show V X _ w _ _ s25 []
                            refine v_aload_n hX 1 rfl (atL dAX8_key_2 33 rfl) ?_
                            refine gf_X8_80 hX hk0 (atL dAX8_key_2 34 rfl) ?_
                            refine v_aload_n hX 1 rfl (atL dAX8_key_2 35 rfl) ?_
                            refine gf_X8_89 hX hk0 (atL dAX8_key_2 36 rfl) ?_
                            refine v_callN hX (As := [.ref (w.1 14 21)]) (rest := []) (c_X7_take (xl X) w s25 18 (hQ 18 (by simp [mn, tp])) (hA25 18) 21 (Nat.lcm (rv (A.1 sp0) - 1) (rv (A.1 sp1) - 1)) (hQ 21 (by simp [mn, tp])) hw25) lk_X8_192 (hQ 18 (by simp [mn, tp])) (fun _ => rfl) rfl rfl rfl (by rw [hR]; exact ⟨Nat.le_of_ble_eq_true rfl, Nat.le_of_ble_eq_true rfl⟩) ⟨Nat.zero_le _, Nat.zero_le _⟩ rfl (Nat.le_of_ble_eq_true rfl) (atL dAX8_key_2 37 rfl) (fun _ s26 e26 => ?_)
                            obtain ⟨hw26, hf26⟩ := e26
                            have hA26 := hA25.one hf26 hw26
                            have hn26_26 := nm.fr hn25_26 hf26 (by decide) (by decide)
                            have hn26_27 := nm.fr hn25_27 hf26 (by decide) (by decide)
                            have hn26_24 := nm.fr hn25_24 hf26 (by decide) (by decide)
                            have hn26_23 := nm.fr hn25_23 hf26 (by decide) (by decide)
                            have hn26_21 := nm.fr hw25 hf26 (by decide) (by decide)
                            have hn26_13 := nm.fr hn25_13 hf26 (by decide) (by decide)
                            have hn26_28 := nm.fr hn25_28 hf26 (by decide) (by decide)
                            have hn26_29 := nm.fr hn25_29 hf26 (by decide) (by decide)
                            have hG26 := hG25.fr hf26 rfl (by decide)
                            have hD26 := hD25.fr hf26 (by decide) (by decide) (by decide)
                            have ht26 : s26 10 0 0 = 0 := by rw [hf26 10 0 (by decide)]; omega
                            show V X _ w _ _ s26 []
                            refine v_aload_n hX 1 rfl (atL dAX8_key_2 38 rfl) ?_
                            refine v_aload_n hX 1 rfl (atL dAX8_key_2 39 rfl) ?_
                            refine gf_X8_129 hX hk0 (atL dAX8_key_2 40 rfl) ?_
                            refine v_aload_n hX 1 rfl (atL dAX8_key_2 41 rfl) ?_
                            refine gf_X8_80 hX hk0 (atL dAX8_key_2 42 rfl) ?_
                            refine v_aload_n hX 1 rfl (atL dAX8_key_2 43 rfl) ?_
                            refine gf_X8_132 hX hk0 (atL dAX8_key_2 44 rfl) ?_
                            refine v_callV hX (As := [.ref (w.1 14 24), .ref (w.1 14 18), .ref (w.1 14 25)]) (rest := []) (c_X8_invert (xl X) w s26 hk0 hA26 24 (rv (A.1 sp2)) (hQ 24 (by simp [mn, tp])) hn26_24 (n_mono hbvsp2 (by omega)) (by omega) 18 (Nat.lcm (rv (A.1 sp0) - 1) (rv (A.1 sp1) - 1)) (hQ 18 (by simp [mn, tp])) hw26 (n_mono hLb (by omega)) hL0 (by omega) 25 (hQ 25 (by simp [mn, tp])) (by omega)) lk_X8_285 hk0 (fun _ => rfl) rfl rfl rfl (by rw [hR]; exact ⟨Nat.le_of_ble_eq_true rfl, Nat.le_of_ble_eq_true rfl⟩) ⟨Nat.zero_le _, Nat.zero_le _⟩ rfl (Nat.le_of_ble_eq_true rfl) (atL dAX8_key_2 45 rfl) (fun r27 s27 e27 => ?_)
                            obtain ⟨gc27, hAp27, hf27⟩ := e27
                            have gd27 : r27 = 0 ∨ r27 = 1 := by rcases gc27 with q | q <;> omega
                            have hA27 := hAp27
                            have hn27_26 := nm.fr hn26_26 hf27 (by decide) (by decide)
                            have hn27_27 := nm.fr hn26_27 hf27 (by decide) (by decide)
                            have hn27_24 := nm.fr hn26_24 hf27 (by decide) (by decide)
                            have hn27_23 := nm.fr hn26_23 hf27 (by decide) (by decide)
                            have hn27_21 := nm.fr hn26_21 hf27 (by decide) (by decide)
                            have hn27_13 := nm.fr hn26_13 hf27 (by decide) (by decide)
                            have hn27_28 := nm.fr hn26_28 hf27 (by decide) (by decide)
                            have hn27_29 := nm.fr hn26_29 hf27 (by decide) (by decide)
                            have hn27_18 := nm.fr hw26 hf27 (by decide) (by decide)
                            have hG27 := hG26.fr hf27 rfl (by decide)
                            have hD27 := hD26.fr hf27 (by decide) (by decide) (by decide)
                            have ht27 : s27 10 0 0 = 0 := by rw [hf27 10 0 (by decide)]; omega
                            show V X _ w _ _ s27 [.int (iI (r27))]
                            obtain ⟨hri, -, dd, hdd, hdlt, hdmul⟩ := gc27.resolve_right (fun q => q.2 hcop)
                            have hinvd := inv_eq hcop hdlt hdmul
                            subst hri
                            clear hdmul
                            have hdn : nby dd ≤ 128 := Nat.le_trans (nby_mono (Nat.le_trans (Nat.le_of_lt hdlt) hLl)) hfit.2
                            have hdb : lb dd 64 := lb_le hLb (Nat.le_of_lt hdlt)
                            refine v_istore hX (lv' := [(5, .int (iI (1))), (4, .int (iI (r22))), (0, .ref (w.1 13 0)), (1, .int (iI ((sp0 : Int)))), (2, .int (iI ((sp1 : Int)))), (3, .int (iI ((sp2 : Int))))]) (Nat.le_of_ble_eq_true rfl) rfl (atL dAX8_key_2 46 rfl) ?_
                            refine v_aload_n hX 2 rfl (atL dAX8_key_2 47 rfl) ?_
                            refine v_iconst hX (atL dAX8_key_2 48 rfl) ?_
                            refine v_aload_n hX 2 rfl (atL dAX8_key_2 49 rfl) ?_
                            refine gf_X8_126 hX hk0 (atL dAX8_key_2 50 rfl) ?_
                            refine v_callV hX (As := [.int (iI (0)), .ref (w.1 14 23)]) (rest := []) (c_X8_keeps (xl X) w s27 hk0 A (hM.1.fg hG27) (by omega) 0 (by decide) 23 ((rv (A.1 sp0)) * (rv (A.1 sp1))) (hQ 23 (by simp [mn, tp])) hn27_23 hfit.2) lk_X8_367 hk0 (fun _ => rfl) rfl rfl rfl (by rw [hR]; exact ⟨Nat.le_of_ble_eq_true rfl, Nat.le_of_ble_eq_true rfl⟩) ⟨Nat.zero_le _, Nat.zero_le _⟩ rfl (Nat.le_of_ble_eq_true rfl) (atL dAX8_key_2 51 rfl) (fun _ s28 e28 => ?_)
                            obtain ⟨hP28, hkp28_0, gk28, ge28, hf28⟩ := e28
                            have hn28_26 := nm.fr hn27_26 hf28 (by decide) (by decide)
                            have hn28_27 := nm.fr hn27_27 hf28 (by decide) (by decide)
                            have hn28_24 := nm.fr hn27_24 hf28 (by decide) (by decide)
                            have hn28_23 := nm.fr hn27_23 hf28 (by decide) (by decide)
                            have hn28_21 := nm.fr hn27_21 hf28 (by decide) (by decide)
                            have hn28_13 := nm.fr hn27_13 hf28 (by decide) (by decide)
                            have hn28_28 := nm.fr hn27_28 hf28 (by decide) (by decide)
                            have hn28_29 := nm.fr hn27_29 hf28 (by decide) (by decide)
                            have hn28_18 := nm.fr hn27_18 hf28 (by decide) (by decide)
                            have hn28_25 := nm.fr hdd hf28 (by decide) (by decide)
                            have hA28 := hA27.fp hf28 rfl
                            have hD28 := DG.kp hD27 ge28 hf28
                            have hC28 := FC.fr hG27.fc hf28 (by decide)
                            have ht28 : s28 10 0 0 = 0 := by rw [ge28 0 (by decide)]; omega
                            have hG28 : FG s28 s28 := FG.rf
                            show V X _ w _ _ s28 []
                            refine v_aload_n hX 2 rfl (atL dAX8_key_2 52 rfl) ?_
                            refine v_iconst hX (atL dAX8_key_2 53 rfl) ?_
                            refine v_aload_n hX 2 rfl (atL dAX8_key_2 54 rfl) ?_
                            refine gf_X8_129 hX hk0 (atL dAX8_key_2 55 rfl) ?_
                            refine v_callV hX (As := [.int (iI (1)), .ref (w.1 14 24)]) (rest := []) (c_X8_keeps (xl X) w s28 hk0 A (hP28.fg hG28) (by omega) 1 (by decide) 24 (rv (A.1 sp2)) (hQ 24 (by simp [mn, tp])) hn28_24 hen) lk_X8_367 hk0 (fun _ => rfl) rfl rfl rfl (by rw [hR]; exact ⟨Nat.le_of_ble_eq_true rfl, Nat.le_of_ble_eq_true rfl⟩) ⟨Nat.zero_le _, Nat.zero_le _⟩ rfl (Nat.le_of_ble_eq_true rfl) (atL dAX8_key_2 56 rfl) (fun _ s29 e29 => ?_)
                            obtain ⟨hP29, hkp29_1, gk29, ge29, hf29⟩ := e29
                            have hn29_26 := nm.fr hn28_26 hf29 (by decide) (by decide)
                            have hn29_27 := nm.fr hn28_27 hf29 (by decide) (by decide)
                            have hn29_24 := nm.fr hn28_24 hf29 (by decide) (by decide)
                            have hn29_23 := nm.fr hn28_23 hf29 (by decide) (by decide)
                            have hn29_21 := nm.fr hn28_21 hf29 (by decide) (by decide)
                            have hn29_13 := nm.fr hn28_13 hf29 (by decide) (by decide)
                            have hn29_28 := nm.fr hn28_28 hf29 (by decide) (by decide)
                            have hn29_29 := nm.fr hn28_29 hf29 (by decide) (by decide)
                            have hn29_18 := nm.fr hn28_18 hf29 (by decide) (by decide)
                            have hn29_25 := nm.fr hn28_25 hf29 (by decide) (by decide)
                            have hkp29_0 := gk29 0 _ (by decide) hkp28_0
                            have hA29 := hA28.fp hf29 rfl
                            have hD29 := DG.kp hD28 ge29 hf29
                            have hC29 := FC.fr (hC28.tr hG28.fc) hf29 (by decide)
                            have ht29 : s29 10 0 0 = 0 := by rw [ge29 0 (by decide)]; omega
                            have hG29 : FG s29 s29 := FG.rf
                            show V X _ w _ _ s29 []
                            refine v_aload_n hX 2 rfl (atL dAX8_key_2 57 rfl) ?_
                            refine v_iconst hX (atL dAX8_key_2 58 rfl) ?_
                            refine v_aload_n hX 2 rfl (atL dAX8_key_2 59 rfl) ?_
                            refine gf_X8_132 hX hk0 (atL dAX8_key_3 0 rfl) ?_
                            refine v_callV hX (As := [.int (iI (2)), .ref (w.1 14 25)]) (rest := []) (c_X8_keeps (xl X) w s29 hk0 A (hP29.fg hG29) (by omega) 2 (by decide) 25 dd (hQ 25 (by simp [mn, tp])) hn29_25 hdn) lk_X8_367 hk0 (fun _ => rfl) rfl rfl rfl (by rw [hR]; exact ⟨Nat.le_of_ble_eq_true rfl, Nat.le_of_ble_eq_true rfl⟩) ⟨Nat.zero_le _, Nat.zero_le _⟩ rfl (Nat.le_of_ble_eq_true rfl) (atL dAX8_key_3 1 rfl) (fun _ s30 e30 => ?_)
                            obtain ⟨hP30, hkp30_2, gk30, ge30, hf30⟩ := e30
                            have hn30_26 := nm.fr hn29_26 hf30 (by decide) (by decide)
                            have hn30_27 := nm.fr hn29_27 hf30 (by decide) (by decide)
                            have hn30_24 := nm.fr hn29_24 hf30 (by decide) (by decide)
                            have hn30_23 := nm.fr hn29_23 hf30 (by decide) (by decide)
                            have hn30_21 := nm.fr hn29_21 hf30 (by decide) (by decide)
                            have hn30_13 := nm.fr hn29_13 hf30 (by decide) (by decide)
                            have hn30_28 := nm.fr hn29_28 hf30 (by decide) (by decide)
                            have hn30_29 := nm.fr hn29_29 hf30 (by decide) (by decide)
                            have hn30_18 := nm.fr hn29_18 hf30 (by decide) (by decide)
                            have hn30_25 := nm.fr hn29_25 hf30 (by decide) (by decide)
                            have hkp30_0 := gk30 0 _ (by decide) hkp29_0
                            have hkp30_1 := gk30 1 _ (by decide) hkp29_1
                            have hA30 := hA29.fp hf30 rfl
                            have hD30 := DG.kp hD29 ge30 hf30
                            have hC30 := FC.fr (hC29.tr hG29.fc) hf30 (by decide)
                            have ht30 : s30 10 0 0 = 0 := by rw [ge30 0 (by decide)]; omega
                            have hG30 : FG s30 s30 := FG.rf
                            show V X _ w _ _ s30 []
                            refine v_aload_n hX 2 rfl (atL dAX8_key_3 2 rfl) ?_
                            refine v_iconst hX (atL dAX8_key_3 3 rfl) ?_
                            refine v_aload_n hX 2 rfl (atL dAX8_key_3 4 rfl) ?_
                            refine gf_X8_135 hX hk0 (atL dAX8_key_3 5 rfl) ?_
                            refine v_callV hX (As := [.int (iI (3)), .ref (w.1 14 26)]) (rest := []) (c_X8_keeps (xl X) w s30 hk0 A (hP30.fg hG30) (by omega) 3 (by decide) 26 (rv (A.1 sp0)) (hQ 26 (by simp [mn, tp])) hn30_26 (Nat.le_trans (few_iff.mp hPQ.2.2.1.1) (by omega))) lk_X8_367 hk0 (fun _ => rfl) rfl rfl rfl (by rw [hR]; exact ⟨Nat.le_of_ble_eq_true rfl, Nat.le_of_ble_eq_true rfl⟩) ⟨Nat.zero_le _, Nat.zero_le _⟩ rfl (Nat.le_of_ble_eq_true rfl) (atL dAX8_key_3 6 rfl) (fun _ s31 e31 => ?_)
                            obtain ⟨hP31, hkp31_3, gk31, ge31, hf31⟩ := e31
                            have hn31_26 := nm.fr hn30_26 hf31 (by decide) (by decide)
                            have hn31_27 := nm.fr hn30_27 hf31 (by decide) (by decide)
                            have hn31_24 := nm.fr hn30_24 hf31 (by decide) (by decide)
                            have hn31_23 := nm.fr hn30_23 hf31 (by decide) (by decide)
                            have hn31_21 := nm.fr hn30_21 hf31 (by decide) (by decide)
                            have hn31_13 := nm.fr hn30_13 hf31 (by decide) (by decide)
                            have hn31_28 := nm.fr hn30_28 hf31 (by decide) (by decide)
                            have hn31_29 := nm.fr hn30_29 hf31 (by decide) (by decide)
                            have hn31_18 := nm.fr hn30_18 hf31 (by decide) (by decide)
                            have hn31_25 := nm.fr hn30_25 hf31 (by decide) (by decide)
                            have hkp31_0 := gk31 0 _ (by decide) hkp30_0
                            have hkp31_1 := gk31 1 _ (by decide) hkp30_1
                            have hkp31_2 := gk31 2 _ (by decide) hkp30_2
                            have hA31 := hA30.fp hf31 rfl
                            have hD31 := DG.kp hD30 ge31 hf31
                            have hC31 := FC.fr (hC30.tr hG30.fc) hf31 (by decide)
                            have ht31 : s31 10 0 0 = 0 := by rw [ge31 0 (by decide)]; omega
                            have hG31 : FG s31 s31 := FG.rf
                            show V X _ w _ _ s31 []
                            refine v_aload_n hX 2 rfl (atL dAX8_key_3 7 rfl) ?_
                            refine v_iconst hX (atL dAX8_key_3 8 rfl) ?_
                            refine v_aload_n hX 2 rfl (atL dAX8_key_3 9 rfl) ?_
                            refine gf_X8_138 hX hk0 (atL dAX8_key_3 10 rfl) ?_
                            refine v_callV hX (As := [.int (iI (4)), .ref (w.1 14 27)]) (rest := []) (c_X8_keeps (xl X) w s31 hk0 A (hP31.fg hG31) (by omega) 4 (by decide) 27 (rv (A.1 sp1)) (hQ 27 (by simp [mn, tp])) hn31_27 (Nat.le_trans (few_iff.mp hPQ.2.2.2.1) (by omega))) lk_X8_367 hk0 (fun _ => rfl) rfl rfl rfl (by rw [hR]; exact ⟨Nat.le_of_ble_eq_true rfl, Nat.le_of_ble_eq_true rfl⟩) ⟨Nat.zero_le _, Nat.zero_le _⟩ rfl (Nat.le_of_ble_eq_true rfl) (atL dAX8_key_3 11 rfl) (fun _ s32 e32 => ?_)
                            obtain ⟨hP32, hkp32_4, gk32, ge32, hf32⟩ := e32
                            have hn32_26 := nm.fr hn31_26 hf32 (by decide) (by decide)
                            have hn32_27 := nm.fr hn31_27 hf32 (by decide) (by decide)
                            have hn32_24 := nm.fr hn31_24 hf32 (by decide) (by decide)
                            have hn32_23 := nm.fr hn31_23 hf32 (by decide) (by decide)
                            have hn32_21 := nm.fr hn31_21 hf32 (by decide) (by decide)
                            have hn32_13 := nm.fr hn31_13 hf32 (by decide) (by decide)
                            have hn32_28 := nm.fr hn31_28 hf32 (by decide) (by decide)
                            have hn32_29 := nm.fr hn31_29 hf32 (by decide) (by decide)
                            have hn32_18 := nm.fr hn31_18 hf32 (by decide) (by decide)
                            have hn32_25 := nm.fr hn31_25 hf32 (by decide) (by decide)
                            have hkp32_0 := gk32 0 _ (by decide) hkp31_0
                            have hkp32_1 := gk32 1 _ (by decide) hkp31_1
                            have hkp32_2 := gk32 2 _ (by decide) hkp31_2
                            have hkp32_3 := gk32 3 _ (by decide) hkp31_3
                            have hA32 := hA31.fp hf32 rfl
                            have hD32 := DG.kp hD31 ge32 hf32
                            have hC32 := FC.fr (hC31.tr hG31.fc) hf32 (by decide)
                            have ht32 : s32 10 0 0 = 0 := by rw [ge32 0 (by decide)]; omega
                            have hG32 : FG s32 s32 := FG.rf
                            show V X _ w _ _ s32 []
                            refine v_aload_n hX 2 rfl (atL dAX8_key_3 12 rfl) ?_
                            refine gf_X8_83 hX hk0 (atL dAX8_key_3 13 rfl) ?_
                            refine v_aload_n hX 2 rfl (atL dAX8_key_3 14 rfl) ?_
                            refine gf_X8_132 hX hk0 (atL dAX8_key_3 15 rfl) ?_
                            refine v_callN hX (As := [.ref (w.1 14 25)]) (rest := []) (c_X7_take (xl X) w s32 19 (hQ 19 (by simp [mn, tp])) (hA32 19) 25 dd (hQ 25 (by simp [mn, tp])) hn32_25) lk_X8_192 (hQ 19 (by simp [mn, tp])) (fun _ => rfl) rfl rfl rfl (by rw [hR]; exact ⟨Nat.le_of_ble_eq_true rfl, Nat.le_of_ble_eq_true rfl⟩) ⟨Nat.zero_le _, Nat.zero_le _⟩ rfl (Nat.le_of_ble_eq_true rfl) (atL dAX8_key_3 16 rfl) (fun _ s33 e33 => ?_)
                            obtain ⟨hw33, hf33⟩ := e33
                            have hA33 := hA32.one hf33 hw33
                            have hn33_26 := nm.fr hn32_26 hf33 (by decide) (by decide)
                            have hn33_27 := nm.fr hn32_27 hf33 (by decide) (by decide)
                            have hn33_24 := nm.fr hn32_24 hf33 (by decide) (by decide)
                            have hn33_23 := nm.fr hn32_23 hf33 (by decide) (by decide)
                            have hn33_21 := nm.fr hn32_21 hf33 (by decide) (by decide)
                            have hn33_13 := nm.fr hn32_13 hf33 (by decide) (by decide)
                            have hn33_28 := nm.fr hn32_28 hf33 (by decide) (by decide)
                            have hn33_29 := nm.fr hn32_29 hf33 (by decide) (by decide)
                            have hn33_18 := nm.fr hn32_18 hf33 (by decide) (by decide)
                            have hn33_25 := nm.fr hn32_25 hf33 (by decide) (by decide)
                            have hG33 := hG32.fr hf33 rfl (by decide)
                            have hD33 := hD32.fr hf33 (by decide) (by decide) (by decide)
                            have ht33 : s33 10 0 0 = 0 := by rw [hf33 10 0 (by decide)]; omega
                            have hkp33_0 := KP.fr hkp32_0 hf33 (by decide) (by decide)
                            have hkp33_1 := KP.fr hkp32_1 hf33 (by decide) (by decide)
                            have hkp33_2 := KP.fr hkp32_2 hf33 (by decide) (by decide)
                            have hkp33_3 := KP.fr hkp32_3 hf33 (by decide) (by decide)
                            have hkp33_4 := KP.fr hkp32_4 hf33 (by decide) (by decide)
                            show V X _ w _ _ s33 []
                            refine v_aload_n hX 2 rfl (atL dAX8_key_3 17 rfl) ?_
                            refine v_aload_n hX 2 rfl (atL dAX8_key_3 18 rfl) ?_
                            refine gf_X8_83 hX hk0 (atL dAX8_key_3 19 rfl) ?_
                            refine v_aload_n hX 2 rfl (atL dAX8_key_3 20 rfl) ?_
                            refine gf_X8_141 hX hk0 (atL dAX8_key_3 21 rfl) ?_
                            refine v_aload_n hX 2 rfl (atL dAX8_key_3 22 rfl) ?_
                            refine gf_X8_19 hX hk0 (atL dAX8_key_3 23 rfl) ?_
                            refine v_callV hX (As := [.ref (w.1 14 19), .ref (w.1 14 28), .ref (w.1 14 2)]) (rest := []) (c_X8_divide (xl X) w s33 hk0 hA33 19 dd (hQ 19 (by simp [mn, tp])) hw33 28 (rv (A.1 sp0) - 1) (hQ 28 (by simp [mn, tp])) hn33_28 2 (hQ 2 (by simp [mn, tp])) (show rv (A.1 sp0) - 1 ≠ 0 by omega) (n_mono hdb (by omega)) (by omega) (by omega) (by omega) (by omega) (by omega) (by omega)) lk_X8_188 hk0 (fun _ => rfl) rfl rfl rfl (by rw [hR]; exact ⟨Nat.le_of_ble_eq_true rfl, Nat.le_of_ble_eq_true rfl⟩) ⟨Nat.zero_le _, Nat.zero_le _⟩ rfl (Nat.le_of_ble_eq_true rfl) (atL dAX8_key_3 24 rfl) (fun _ s34 e34 => ?_)
                            obtain ⟨hw34, hwq34, hAp34, hf34⟩ := e34
                            have hA34 := hAp34
                            have hn34_26 := nm.fr hn33_26 hf34 (by decide) (by decide)
                            have hn34_27 := nm.fr hn33_27 hf34 (by decide) (by decide)
                            have hn34_24 := nm.fr hn33_24 hf34 (by decide) (by decide)
                            have hn34_23 := nm.fr hn33_23 hf34 (by decide) (by decide)
                            have hn34_21 := nm.fr hn33_21 hf34 (by decide) (by decide)
                            have hn34_13 := nm.fr hn33_13 hf34 (by decide) (by decide)
                            have hn34_28 := nm.fr hn33_28 hf34 (by decide) (by decide)
                            have hn34_29 := nm.fr hn33_29 hf34 (by decide) (by decide)
                            have hn34_18 := nm.fr hn33_18 hf34 (by decide) (by decide)
                            have hn34_25 := nm.fr hn33_25 hf34 (by decide) (by decide)
                            have hG34 := hG33.fr hf34 rfl (by decide)
                            have hD34 := hD33.fr hf34 (by decide) (by decide) (by decide)
                            have ht34 : s34 10 0 0 = 0 := by rw [hf34 10 0 (by decide)]; omega
                            have hkp34_0 := KP.fr hkp33_0 hf34 (by decide) (by decide)
                            have hkp34_1 := KP.fr hkp33_1 hf34 (by decide) (by decide)
                            have hkp34_2 := KP.fr hkp33_2 hf34 (by decide) (by decide)
                            have hkp34_3 := KP.fr hkp33_3 hf34 (by decide) (by decide)
                            have hkp34_4 := KP.fr hkp33_4 hf34 (by decide) (by decide)
                            show V X _ w _ _ s34 []
                            refine v_aload_n hX 2 rfl (atL dAX8_key_3 25 rfl) ?_
                            refine v_iconst hX (atL dAX8_key_3 26 rfl) ?_
                            refine v_aload_n hX 2 rfl (atL dAX8_key_3 27 rfl) ?_
                            refine gf_X8_83 hX hk0 (atL dAX8_key_3 28 rfl) ?_
                            refine v_callV hX (As := [.int (iI (5)), .ref (w.1 14 19)]) (rest := []) (c_X8_keeps (xl X) w s34 hk0 A (hP32.fg hG34) (by omega) 5 (by decide) 19 (dd % (rv (A.1 sp0) - 1)) (hQ 19 (by simp [mn, tp])) hw34 (Nat.le_trans (nby_mono (Nat.mod_le _ _)) hdn)) lk_X8_367 hk0 (fun _ => rfl) rfl rfl rfl (by rw [hR]; exact ⟨Nat.le_of_ble_eq_true rfl, Nat.le_of_ble_eq_true rfl⟩) ⟨Nat.zero_le _, Nat.zero_le _⟩ rfl (Nat.le_of_ble_eq_true rfl) (atL dAX8_key_3 29 rfl) (fun _ s35 e35 => ?_)
                            obtain ⟨hP35, hkp35_5, gk35, ge35, hf35⟩ := e35
                            have hn35_26 := nm.fr hn34_26 hf35 (by decide) (by decide)
                            have hn35_27 := nm.fr hn34_27 hf35 (by decide) (by decide)
                            have hn35_24 := nm.fr hn34_24 hf35 (by decide) (by decide)
                            have hn35_23 := nm.fr hn34_23 hf35 (by decide) (by decide)
                            have hn35_21 := nm.fr hn34_21 hf35 (by decide) (by decide)
                            have hn35_13 := nm.fr hn34_13 hf35 (by decide) (by decide)
                            have hn35_28 := nm.fr hn34_28 hf35 (by decide) (by decide)
                            have hn35_29 := nm.fr hn34_29 hf35 (by decide) (by decide)
                            have hn35_18 := nm.fr hn34_18 hf35 (by decide) (by decide)
                            have hn35_25 := nm.fr hn34_25 hf35 (by decide) (by decide)
                            have hn35_19 := nm.fr hw34 hf35 (by decide) (by decide)
                            have hn35_2 := nm.fr hwq34 hf35 (by decide) (by decide)
                            have hkp35_0 := gk35 0 _ (by decide) hkp34_0
                            have hkp35_1 := gk35 1 _ (by decide) hkp34_1
                            have hkp35_2 := gk35 2 _ (by decide) hkp34_2
                            have hkp35_3 := gk35 3 _ (by decide) hkp34_3
                            have hkp35_4 := gk35 4 _ (by decide) hkp34_4
                            have hA35 := hA34.fp hf35 rfl
                            have hD35 := DG.kp hD34 ge35 hf35
                            have hC35 := FC.fr (hC32.tr hG34.fc) hf35 (by decide)
                            have ht35 : s35 10 0 0 = 0 := by rw [ge35 0 (by decide)]; omega
                            have hG35 : FG s35 s35 := FG.rf
                            show V X _ w _ _ s35 []
                            refine v_aload_n hX 2 rfl (atL dAX8_key_3 30 rfl) ?_
                            refine gf_X8_83 hX hk0 (atL dAX8_key_3 31 rfl) ?_
                            refine v_aload_n hX 2 rfl (atL dAX8_key_3 32 rfl) ?_
                            refine gf_X8_132 hX hk0 (atL dAX8_key_3 33 rfl) ?_
                            refine v_callN hX (As := [.ref (w.1 14 25)]) (rest := []) (c_X7_take (xl X) w s35 19 (hQ 19 (by simp [mn, tp])) (hA35 19) 25 dd (hQ 25 (by simp [mn, tp])) hn35_25) lk_X8_192 (hQ 19 (by simp [mn, tp])) (fun _ => rfl) rfl rfl rfl (by rw [hR]; exact ⟨Nat.le_of_ble_eq_true rfl, Nat.le_of_ble_eq_true rfl⟩) ⟨Nat.zero_le _, Nat.zero_le _⟩ rfl (Nat.le_of_ble_eq_true rfl) (atL dAX8_key_3 34 rfl) (fun _ s36 e36 => ?_)
                            obtain ⟨hw36, hf36⟩ := e36
                            have hA36 := hA35.one hf36 hw36
                            have hn36_26 := nm.fr hn35_26 hf36 (by decide) (by decide)
                            have hn36_27 := nm.fr hn35_27 hf36 (by decide) (by decide)
                            have hn36_24 := nm.fr hn35_24 hf36 (by decide) (by decide)
                            have hn36_23 := nm.fr hn35_23 hf36 (by decide) (by decide)
                            have hn36_21 := nm.fr hn35_21 hf36 (by decide) (by decide)
                            have hn36_13 := nm.fr hn35_13 hf36 (by decide) (by decide)
                            have hn36_28 := nm.fr hn35_28 hf36 (by decide) (by decide)
                            have hn36_29 := nm.fr hn35_29 hf36 (by decide) (by decide)
                            have hn36_18 := nm.fr hn35_18 hf36 (by decide) (by decide)
                            have hn36_25 := nm.fr hn35_25 hf36 (by decide) (by decide)
                            have hn36_2 := nm.fr hn35_2 hf36 (by decide) (by decide)
                            have hG36 := hG35.fr hf36 rfl (by decide)
                            have hD36 := hD35.fr hf36 (by decide) (by decide) (by decide)
                            have ht36 : s36 10 0 0 = 0 := by rw [hf36 10 0 (by decide)]; omega
                            have hkp36_0 := KP.fr hkp35_0 hf36 (by decide) (by decide)
                            have hkp36_1 := KP.fr hkp35_1 hf36 (by decide) (by decide)
                            have hkp36_2 := KP.fr hkp35_2 hf36 (by decide) (by decide)
                            have hkp36_3 := KP.fr hkp35_3 hf36 (by decide) (by decide)
                            have hkp36_4 := KP.fr hkp35_4 hf36 (by decide) (by decide)
                            have hkp36_5 := KP.fr hkp35_5 hf36 (by decide) (by decide)
                            show V X _ w _ _ s36 []
                            refine v_aload_n hX 2 rfl (atL dAX8_key_3 35 rfl) ?_
                            refine v_aload_n hX 2 rfl (atL dAX8_key_3 36 rfl) ?_
                            refine gf_X8_83 hX hk0 (atL dAX8_key_3 37 rfl) ?_
                            refine v_aload_n hX 2 rfl (atL dAX8_key_3 38 rfl) ?_
                            refine gf_X8_144 hX hk0 (atL dAX8_key_3 39 rfl) ?_
                            refine v_aload_n hX 2 rfl (atL dAX8_key_3 40 rfl) ?_
                            refine gf_X8_19 hX hk0 (atL dAX8_key_3 41 rfl) ?_
                            refine v_callV hX (As := [.ref (w.1 14 19), .ref (w.1 14 29), .ref (w.1 14 2)]) (rest := []) (c_X8_divide (xl X) w s36 hk0 hA36 19 dd (hQ 19 (by simp [mn, tp])) hw36 29 (rv (A.1 sp1) - 1) (hQ 29 (by simp [mn, tp])) hn36_29 2 (hQ 2 (by simp [mn, tp])) (show rv (A.1 sp1) - 1 ≠ 0 by omega) (n_mono hdb (by omega)) (by omega) (by omega) (by omega) (by omega) (by omega) (by omega)) lk_X8_188 hk0 (fun _ => rfl) rfl rfl rfl (by rw [hR]; exact ⟨Nat.le_of_ble_eq_true rfl, Nat.le_of_ble_eq_true rfl⟩) ⟨Nat.zero_le _, Nat.zero_le _⟩ rfl (Nat.le_of_ble_eq_true rfl) (atL dAX8_key_3 42 rfl) (fun _ s37 e37 => ?_)
                            obtain ⟨hw37, hwq37, hAp37, hf37⟩ := e37
                            have hA37 := hAp37
                            have hn37_26 := nm.fr hn36_26 hf37 (by decide) (by decide)
                            have hn37_27 := nm.fr hn36_27 hf37 (by decide) (by decide)
                            have hn37_24 := nm.fr hn36_24 hf37 (by decide) (by decide)
                            have hn37_23 := nm.fr hn36_23 hf37 (by decide) (by decide)
                            have hn37_21 := nm.fr hn36_21 hf37 (by decide) (by decide)
                            have hn37_13 := nm.fr hn36_13 hf37 (by decide) (by decide)
                            have hn37_28 := nm.fr hn36_28 hf37 (by decide) (by decide)
                            have hn37_29 := nm.fr hn36_29 hf37 (by decide) (by decide)
                            have hn37_18 := nm.fr hn36_18 hf37 (by decide) (by decide)
                            have hn37_25 := nm.fr hn36_25 hf37 (by decide) (by decide)
                            have hG37 := hG36.fr hf37 rfl (by decide)
                            have hD37 := hD36.fr hf37 (by decide) (by decide) (by decide)
                            have ht37 : s37 10 0 0 = 0 := by rw [hf37 10 0 (by decide)]; omega
                            have hkp37_0 := KP.fr hkp36_0 hf37 (by decide) (by decide)
                            have hkp37_1 := KP.fr hkp36_1 hf37 (by decide) (by decide)
                            have hkp37_2 := KP.fr hkp36_2 hf37 (by decide) (by decide)
                            have hkp37_3 := KP.fr hkp36_3 hf37 (by decide) (by decide)
                            have hkp37_4 := KP.fr hkp36_4 hf37 (by decide) (by decide)
                            have hkp37_5 := KP.fr hkp36_5 hf37 (by decide) (by decide)
                            show V X _ w _ _ s37 []
                            refine v_aload_n hX 2 rfl (atL dAX8_key_3 43 rfl) ?_
                            refine v_bipush hX (by decide +kernel) (atL dAX8_key_3 44 rfl) ?_
                            refine v_aload_n hX 2 rfl (atL dAX8_key_3 45 rfl) ?_
                            refine gf_X8_83 hX hk0 (atL dAX8_key_3 46 rfl) ?_
                            refine v_callV hX (As := [.int (iI (6)), .ref (w.1 14 19)]) (rest := []) (c_X8_keeps (xl X) w s37 hk0 A (hP35.fg hG37) (by omega) 6 (by decide) 19 (dd % (rv (A.1 sp1) - 1)) (hQ 19 (by simp [mn, tp])) hw37 (Nat.le_trans (nby_mono (Nat.mod_le _ _)) hdn)) lk_X8_367 hk0 (fun _ => rfl) rfl rfl rfl (by rw [hR]; exact ⟨Nat.le_of_ble_eq_true rfl, Nat.le_of_ble_eq_true rfl⟩) ⟨Nat.zero_le _, Nat.zero_le _⟩ rfl (Nat.le_of_ble_eq_true rfl) (atL dAX8_key_3 47 rfl) (fun _ s38 e38 => ?_)
                            obtain ⟨hP38, hkp38_6, gk38, ge38, hf38⟩ := e38
                            have hn38_26 := nm.fr hn37_26 hf38 (by decide) (by decide)
                            have hn38_27 := nm.fr hn37_27 hf38 (by decide) (by decide)
                            have hn38_24 := nm.fr hn37_24 hf38 (by decide) (by decide)
                            have hn38_23 := nm.fr hn37_23 hf38 (by decide) (by decide)
                            have hn38_21 := nm.fr hn37_21 hf38 (by decide) (by decide)
                            have hn38_13 := nm.fr hn37_13 hf38 (by decide) (by decide)
                            have hn38_28 := nm.fr hn37_28 hf38 (by decide) (by decide)
                            have hn38_29 := nm.fr hn37_29 hf38 (by decide) (by decide)
                            have hn38_18 := nm.fr hn37_18 hf38 (by decide) (by decide)
                            have hn38_25 := nm.fr hn37_25 hf38 (by decide) (by decide)
                            have hn38_19 := nm.fr hw37 hf38 (by decide) (by decide)
                            have hn38_2 := nm.fr hwq37 hf38 (by decide) (by decide)
                            have hkp38_0 := gk38 0 _ (by decide) hkp37_0
                            have hkp38_1 := gk38 1 _ (by decide) hkp37_1
                            have hkp38_2 := gk38 2 _ (by decide) hkp37_2
                            have hkp38_3 := gk38 3 _ (by decide) hkp37_3
                            have hkp38_4 := gk38 4 _ (by decide) hkp37_4
                            have hkp38_5 := gk38 5 _ (by decide) hkp37_5
                            have hA38 := hA37.fp hf38 rfl
                            have hD38 := DG.kp hD37 ge38 hf38
                            have hC38 := FC.fr (hC35.tr hG37.fc) hf38 (by decide)
                            have ht38 : s38 10 0 0 = 0 := by rw [ge38 0 (by decide)]; omega
                            have hG38 : FG s38 s38 := FG.rf
                            show V X _ w _ _ s38 []
                            refine v_aload_n hX 2 rfl (atL dAX8_key_3 48 rfl) ?_
                            refine v_aload_n hX 2 rfl (atL dAX8_key_3 49 rfl) ?_
                            refine gf_X8_138 hX hk0 (atL dAX8_key_3 50 rfl) ?_
                            refine v_aload_n hX 2 rfl (atL dAX8_key_3 51 rfl) ?_
                            refine gf_X8_135 hX hk0 (atL dAX8_key_3 52 rfl) ?_
                            refine v_aload_n hX 2 rfl (atL dAX8_key_3 53 rfl) ?_
                            refine gf_X8_83 hX hk0 (atL dAX8_key_3 54 rfl) ?_
                            refine v_callV hX (As := [.ref (w.1 14 27), .ref (w.1 14 26), .ref (w.1 14 19)]) (rest := []) (c_X8_invert (xl X) w s38 hk0 hA38 27 (rv (A.1 sp1)) (hQ 27 (by simp [mn, tp])) hn38_27 (n_mono hbvsp1 (by omega)) (by omega) 26 (rv (A.1 sp0)) (hQ 26 (by simp [mn, tp])) hn38_26 (n_mono hbvsp0 (by omega)) (show rv (A.1 sp0) ≠ 0 by omega) (by omega) 19 (hQ 19 (by simp [mn, tp])) (by omega)) lk_X8_285 hk0 (fun _ => rfl) rfl rfl rfl (by rw [hR]; exact ⟨Nat.le_of_ble_eq_true rfl, Nat.le_of_ble_eq_true rfl⟩) ⟨Nat.zero_le _, Nat.zero_le _⟩ rfl (Nat.le_of_ble_eq_true rfl) (atL dAX8_key_3 55 rfl) (fun r39 s39 e39 => ?_)
                            obtain ⟨gc39, hAp39, hf39⟩ := e39
                            have gd39 : r39 = 0 ∨ r39 = 1 := by rcases gc39 with q | q <;> omega
                            have hA39 := hAp39
                            have hn39_26 := nm.fr hn38_26 hf39 (by decide) (by decide)
                            have hn39_27 := nm.fr hn38_27 hf39 (by decide) (by decide)
                            have hn39_24 := nm.fr hn38_24 hf39 (by decide) (by decide)
                            have hn39_23 := nm.fr hn38_23 hf39 (by decide) (by decide)
                            have hn39_21 := nm.fr hn38_21 hf39 (by decide) (by decide)
                            have hn39_13 := nm.fr hn38_13 hf39 (by decide) (by decide)
                            have hn39_28 := nm.fr hn38_28 hf39 (by decide) (by decide)
                            have hn39_29 := nm.fr hn38_29 hf39 (by decide) (by decide)
                            have hn39_18 := nm.fr hn38_18 hf39 (by decide) (by decide)
                            have hn39_25 := nm.fr hn38_25 hf39 (by decide) (by decide)
                            have hG39 := hG38.fr hf39 rfl (by decide)
                            have hD39 := hD38.fr hf39 (by decide) (by decide) (by decide)
                            have ht39 : s39 10 0 0 = 0 := by rw [hf39 10 0 (by decide)]; omega
                            have hkp39_0 := KP.fr hkp38_0 hf39 (by decide) (by decide)
                            have hkp39_1 := KP.fr hkp38_1 hf39 (by decide) (by decide)
                            have hkp39_2 := KP.fr hkp38_2 hf39 (by decide) (by decide)
                            have hkp39_3 := KP.fr hkp38_3 hf39 (by decide) (by decide)
                            have hkp39_4 := KP.fr hkp38_4 hf39 (by decide) (by decide)
                            have hkp39_5 := KP.fr hkp38_5 hf39 (by decide) (by decide)
                            have hkp39_6 := KP.fr hkp38_6 hf39 (by decide) (by decide)
                            show V X _ w _ _ s39 [.int (iI (r39))]
                            obtain ⟨hrj, -, ee, hee, helt, hemul⟩ := gc39.resolve_right (fun q => q.2 (by rw [Nat.gcd_comm]; exact hgpq))
                            have hinve := inv_eq (by rw [Nat.gcd_comm]; exact hgpq) helt hemul
                            subst hrj
                            clear hemul
                            refine v_if_eq hX ⟨by omega, by omega⟩ (tgt := 486) (atL dAX8_key_3 56 rfl) (by decide) (fun h474 => ?_) (fun h474 => ?_)
                            · refine v_iconst hX (atL dAX8_key_4 1 rfl) ?_
                              refine v_istore hX (lv' := [(5, .int (iI (0))), (4, .int (iI (r22))), (0, .ref (w.1 13 0)), (1, .int (iI ((sp0 : Int)))), (2, .int (iI ((sp1 : Int)))), (3, .int (iI ((sp2 : Int))))]) (Nat.le_of_ble_eq_true rfl) rfl (atL dAX8_key_4 2 rfl) ?_
                              refine v_aload_n hX 2 rfl (atL dAX8_key_4 3 rfl) ?_
                              refine v_bipush hX (by decide +kernel) (atL dAX8_key_4 4 rfl) ?_
                              refine v_aload_n hX 2 rfl (atL dAX8_key_4 5 rfl) ?_
                              refine gf_X8_83 hX hk0 (atL dAX8_key_4 6 rfl) ?_
                              refine v_callV hX (As := [.int (iI (7)), .ref (w.1 14 19)]) (rest := []) (c_X8_keeps (xl X) w s39 hk0 A (hP38.fg hG39) (by omega) 7 (by decide) 19 ee (hQ 19 (by simp [mn, tp])) hee (Nat.le_trans (nby_mono (Nat.le_of_lt helt)) (Nat.le_trans (few_iff.mp hPQ.2.2.1.1) (by omega)))) lk_X8_367 hk0 (fun _ => rfl) rfl rfl rfl (by rw [hR]; exact ⟨Nat.le_of_ble_eq_true rfl, Nat.le_of_ble_eq_true rfl⟩) ⟨Nat.zero_le _, Nat.zero_le _⟩ rfl (Nat.le_of_ble_eq_true rfl) (atL dAX8_key_4 7 rfl) (fun _ s40 e40 => ?_)
                              obtain ⟨hP40, hkp40_7, gk40, ge40, hf40⟩ := e40
                              have hn40_26 := nm.fr hn39_26 hf40 (by decide) (by decide)
                              have hn40_27 := nm.fr hn39_27 hf40 (by decide) (by decide)
                              have hn40_24 := nm.fr hn39_24 hf40 (by decide) (by decide)
                              have hn40_23 := nm.fr hn39_23 hf40 (by decide) (by decide)
                              have hn40_21 := nm.fr hn39_21 hf40 (by decide) (by decide)
                              have hn40_13 := nm.fr hn39_13 hf40 (by decide) (by decide)
                              have hn40_28 := nm.fr hn39_28 hf40 (by decide) (by decide)
                              have hn40_29 := nm.fr hn39_29 hf40 (by decide) (by decide)
                              have hn40_18 := nm.fr hn39_18 hf40 (by decide) (by decide)
                              have hn40_25 := nm.fr hn39_25 hf40 (by decide) (by decide)
                              have hn40_19 := nm.fr hee hf40 (by decide) (by decide)
                              have hkp40_0 := gk40 0 _ (by decide) hkp39_0
                              have hkp40_1 := gk40 1 _ (by decide) hkp39_1
                              have hkp40_2 := gk40 2 _ (by decide) hkp39_2
                              have hkp40_3 := gk40 3 _ (by decide) hkp39_3
                              have hkp40_4 := gk40 4 _ (by decide) hkp39_4
                              have hkp40_5 := gk40 5 _ (by decide) hkp39_5
                              have hkp40_6 := gk40 6 _ (by decide) hkp39_6
                              have hA40 := hA39.fp hf40 rfl
                              have hD40 := DG.kp hD39 ge40 hf40
                              have hC40 := FC.fr (hC38.tr hG39.fc) hf40 (by decide)
                              have ht40 : s40 10 0 0 = 0 := by rw [ge40 0 (by decide)]; omega
                              have hG40 : FG s40 s40 := FG.rf
                              show V X _ w _ _ s40 []
                              refine v_aload_n hX 2 rfl (atL dAX8_key_4 8 rfl) ?_
                              refine gf_X8_122 hX hk0 (atL dAX8_key_4 9 rfl) ?_
                              refine v_aload_n hX 2 rfl (atL dAX8_key_4 10 rfl) ?_
                              refine gf_X8_358 hX (v := (A.2.1 : Int)) ((hP40.fg hG40).2.2.1) hk0 (atL dAX8_key_4 11 rfl) ?_
                              refine v_iconst hX (atL dAX8_key_4 12 rfl) ?_
                              refine v_zast hX (c := 14) A.2.1 (hcl 13 0 hk0 (17, 0) (by simp [mn, tp])) (by decide) (fun _ _ => rfl) (by decide +kernel) rfl (show A.2.1 < 16 by omega) (by decide) (atL dAX8_key_4 13 rfl) ?_
                              refine v_aload_n hX 2 rfl (atL dAX8_key_4 14 rfl) ?_
                              refine v_dup hX rfl (atL dAX8_key_4 15 rfl) ?_
                              refine gf_X8_358 hX (v := (A.2.1 : Int)) ((su_c (by decide)).trans ((hP40.fg hG40).2.2.1)) hk0 (atL dAX8_key_4 16 rfl) ?_
                              refine v_iconst hX (atL dAX8_key_4 17 rfl) ?_
                              refine v_iadd hX (iI_add _ _) (atL dAX8_key_4 18 rfl) ?_
                              refine pf_X8_358 hX hk0 (atL dAX8_key_4 19 rfl) ?_
                              refine v_aload_n hX 2 rfl (atL dAX8_key_4 20 rfl) ?_
                              refine gf_X8_358 hX (v := ((A.2.1 : Int)) + 1) (su_s) hk0 (atL dAX8_key_4 21 rfl) ?_
                              refine v_iconst hX (atL dAX8_key_4 22 rfl) ?_
                              refine v_isub hX (iI_sub _ _) (atL dAX8_key_4 23 rfl) ?_
                              exact v_iret hX (atL dAX8_key_4 24 rfl) (hret _ _ ⟨A.add 8 (keyK (rv (A.1 sp0)) (rv (A.1 sp1)) (rv (A.1 sp2))), Or.inr ⟨hSS, Or.inr ⟨by rw [Int.toNat_natCast, Int.toNat_natCast]; exact hRP, Or.inr ⟨by rw [Int.toNat_natCast, Int.toNat_natCast, Int.toNat_natCast]; exact hRE, Or.inr ⟨hk15, by rw [Int.toNat_natCast, Int.toNat_natCast, Int.toNat_natCast, show (su (su s40 14 0 A.2.1 1) 10 0 5 (((A.2.1 : Int)) + 1)) 10 0 0 = 0 from nk_0 ht40, Int.add_sub_cancel]⟩⟩⟩⟩, ⟨(hP40.fg hG40).add (P := 8) (K := keyK (rv (A.1 sp0)) (rv (A.1 sp1)) (rv (A.1 sp2))) hk15 (Or.inr rfl) (fun j hj => by rcases (show j = 0 ∨ j = 1 ∨ j = 2 ∨ j = 3 ∨ j = 4 ∨ j = 5 ∨ j = 6 ∨ j = 7 by omega) with rfl | rfl | rfl | rfl | rfl | rfl | rfl | rfl; exact (by exact hkp40_0); exact (by exact hkp40_1); exact (by show KP _ _ _ (inv _ _); rw [hinvd]; exact hkp40_2); exact (by exact hkp40_3); exact (by exact hkp40_4); exact (by show KP _ _ _ (inv _ _ % _); rw [hinvd]; exact hkp40_5); exact (by show KP _ _ _ (inv _ _ % _); rw [hinvd]; exact hkp40_6); exact (by show KP _ _ _ (inv _ _); rw [hinve]; exact hkp40_7)) hn00 rfl, (hA40.s1 (by decide)).s1 (by decide), hD40.nk⟩, FC.nk (hC40.tr hG40.fc)⟩)
                            · refine v_iload hX 0 rfl (atL dAX8_key_3 57 rfl) ?_
                              refine v_if_eq hX ⟨by omega, by omega⟩ (tgt := 486) (atL dAX8_key_3 58 rfl) (by decide) (fun h479 => absurd h479 (by omega)) (fun h479 => ?_)
                              refine v_iconst hX (atL dAX8_key_3 59 rfl) ?_
                              refine v_goto hX (tgt := 487) (atL dAX8_key_4 0 rfl) (by decide) ?_
                              refine v_istore hX (lv' := [(5, .int (iI (1))), (4, .int (iI (r22))), (0, .ref (w.1 13 0)), (1, .int (iI ((sp0 : Int)))), (2, .int (iI ((sp1 : Int)))), (3, .int (iI ((sp2 : Int))))]) (Nat.le_of_ble_eq_true rfl) rfl (atL dAX8_key_4 2 rfl) ?_
                              refine v_aload_n hX 2 rfl (atL dAX8_key_4 3 rfl) ?_
                              refine v_bipush hX (by decide +kernel) (atL dAX8_key_4 4 rfl) ?_
                              refine v_aload_n hX 2 rfl (atL dAX8_key_4 5 rfl) ?_
                              refine gf_X8_83 hX hk0 (atL dAX8_key_4 6 rfl) ?_
                              refine v_callV hX (As := [.int (iI (7)), .ref (w.1 14 19)]) (rest := []) (c_X8_keeps (xl X) w s39 hk0 A (hP38.fg hG39) (by omega) 7 (by decide) 19 ee (hQ 19 (by simp [mn, tp])) hee (Nat.le_trans (nby_mono (Nat.le_of_lt helt)) (Nat.le_trans (few_iff.mp hPQ.2.2.1.1) (by omega)))) lk_X8_367 hk0 (fun _ => rfl) rfl rfl rfl (by rw [hR]; exact ⟨Nat.le_of_ble_eq_true rfl, Nat.le_of_ble_eq_true rfl⟩) ⟨Nat.zero_le _, Nat.zero_le _⟩ rfl (Nat.le_of_ble_eq_true rfl) (atL dAX8_key_4 7 rfl) (fun _ s41 e41 => ?_)
                              obtain ⟨hP41, hkp41_7, gk41, ge41, hf41⟩ := e41
                              have hn41_26 := nm.fr hn39_26 hf41 (by decide) (by decide)
                              have hn41_27 := nm.fr hn39_27 hf41 (by decide) (by decide)
                              have hn41_24 := nm.fr hn39_24 hf41 (by decide) (by decide)
                              have hn41_23 := nm.fr hn39_23 hf41 (by decide) (by decide)
                              have hn41_21 := nm.fr hn39_21 hf41 (by decide) (by decide)
                              have hn41_13 := nm.fr hn39_13 hf41 (by decide) (by decide)
                              have hn41_28 := nm.fr hn39_28 hf41 (by decide) (by decide)
                              have hn41_29 := nm.fr hn39_29 hf41 (by decide) (by decide)
                              have hn41_18 := nm.fr hn39_18 hf41 (by decide) (by decide)
                              have hn41_25 := nm.fr hn39_25 hf41 (by decide) (by decide)
                              have hn41_19 := nm.fr hee hf41 (by decide) (by decide)
                              have hkp41_0 := gk41 0 _ (by decide) hkp39_0
                              have hkp41_1 := gk41 1 _ (by decide) hkp39_1
                              have hkp41_2 := gk41 2 _ (by decide) hkp39_2
                              have hkp41_3 := gk41 3 _ (by decide) hkp39_3
                              have hkp41_4 := gk41 4 _ (by decide) hkp39_4
                              have hkp41_5 := gk41 5 _ (by decide) hkp39_5
                              have hkp41_6 := gk41 6 _ (by decide) hkp39_6
                              have hA41 := hA39.fp hf41 rfl
                              have hD41 := DG.kp hD39 ge41 hf41
                              have hC41 := FC.fr (hC38.tr hG39.fc) hf41 (by decide)
                              have ht41 : s41 10 0 0 = 0 := by rw [ge41 0 (by decide)]; omega
                              have hG41 : FG s41 s41 := FG.rf
                              show V X _ w _ _ s41 []
                              refine v_aload_n hX 2 rfl (atL dAX8_key_4 8 rfl) ?_
                              refine gf_X8_122 hX hk0 (atL dAX8_key_4 9 rfl) ?_
                              refine v_aload_n hX 2 rfl (atL dAX8_key_4 10 rfl) ?_
                              refine gf_X8_358 hX (v := (A.2.1 : Int)) ((hP41.fg hG41).2.2.1) hk0 (atL dAX8_key_4 11 rfl) ?_
                              refine v_iconst hX (atL dAX8_key_4 12 rfl) ?_
                              refine v_zast hX (c := 14) A.2.1 (hcl 13 0 hk0 (17, 0) (by simp [mn, tp])) (by decide) (fun _ _ => rfl) (by decide +kernel) rfl (show A.2.1 < 16 by omega) (by decide) (atL dAX8_key_4 13 rfl) ?_
                              refine v_aload_n hX 2 rfl (atL dAX8_key_4 14 rfl) ?_
                              refine v_dup hX rfl (atL dAX8_key_4 15 rfl) ?_
                              refine gf_X8_358 hX (v := (A.2.1 : Int)) ((su_c (by decide)).trans ((hP41.fg hG41).2.2.1)) hk0 (atL dAX8_key_4 16 rfl) ?_
                              refine v_iconst hX (atL dAX8_key_4 17 rfl) ?_
                              refine v_iadd hX (iI_add _ _) (atL dAX8_key_4 18 rfl) ?_
                              refine pf_X8_358 hX hk0 (atL dAX8_key_4 19 rfl) ?_
                              refine v_aload_n hX 2 rfl (atL dAX8_key_4 20 rfl) ?_
                              refine gf_X8_358 hX (v := ((A.2.1 : Int)) + 1) (su_s) hk0 (atL dAX8_key_4 21 rfl) ?_
                              refine v_iconst hX (atL dAX8_key_4 22 rfl) ?_
                              refine v_isub hX (iI_sub _ _) (atL dAX8_key_4 23 rfl) ?_
                              exact v_iret hX (atL dAX8_key_4 24 rfl) (hret _ _ ⟨A.add 8 (keyK (rv (A.1 sp0)) (rv (A.1 sp1)) (rv (A.1 sp2))), Or.inr ⟨hSS, Or.inr ⟨by rw [Int.toNat_natCast, Int.toNat_natCast]; exact hRP, Or.inr ⟨by rw [Int.toNat_natCast, Int.toNat_natCast, Int.toNat_natCast]; exact hRE, Or.inr ⟨hk15, by rw [Int.toNat_natCast, Int.toNat_natCast, Int.toNat_natCast, show (su (su s41 14 0 A.2.1 1) 10 0 5 (((A.2.1 : Int)) + 1)) 10 0 0 = 0 from nk_0 ht41, Int.add_sub_cancel]⟩⟩⟩⟩, ⟨(hP41.fg hG41).add (P := 8) (K := keyK (rv (A.1 sp0)) (rv (A.1 sp1)) (rv (A.1 sp2))) hk15 (Or.inr rfl) (fun j hj => by rcases (show j = 0 ∨ j = 1 ∨ j = 2 ∨ j = 3 ∨ j = 4 ∨ j = 5 ∨ j = 6 ∨ j = 7 by omega) with rfl | rfl | rfl | rfl | rfl | rfl | rfl | rfl; exact (by exact hkp41_0); exact (by exact hkp41_1); exact (by show KP _ _ _ (inv _ _); rw [hinvd]; exact hkp41_2); exact (by exact hkp41_3); exact (by exact hkp41_4); exact (by show KP _ _ _ (inv _ _ % _); rw [hinvd]; exact hkp41_5); exact (by show KP _ _ _ (inv _ _ % _); rw [hinvd]; exact hkp41_6); exact (by show KP _ _ _ (inv _ _); rw [hinve]; exact hkp41_7)) hn00 rfl, (hA41.s1 (by decide)).s1 (by decide), hD41.nk⟩, FC.nk (hC41.tr hG41.fc)⟩)
                          · refine v_bipush hX (by decide +kernel) (atL dAX8_key_2 23 rfl) ?_
                            exact v_iret hX (atL dAX8_key_2 24 rfl) (hret _ _ ⟨A, Or.inr ⟨by omega, Or.inr ⟨by rw [Int.toNat_natCast, Int.toNat_natCast]; exact hRP, Or.inr ⟨by rw [Int.toNat_natCast, Int.toNat_natCast, Int.toNat_natCast]; exact hRE, Or.inl ⟨by omega, by rw [show s23 10 0 0 = 0 by omega]⟩⟩⟩⟩, ⟨(hM.1.fg hG23), hA23, hD23⟩, hG23.fc⟩)
                        · refine v_bipush hX (by decide +kernel) (atL dAX8_key_2 17 rfl) ?_
                          exact v_iret hX (atL dAX8_key_2 18 rfl) (hret _ _ ⟨A, Or.inr ⟨by omega, Or.inr ⟨by rw [Int.toNat_natCast, Int.toNat_natCast]; exact hRP, Or.inl ⟨_, by rw [Int.toNat_natCast, Int.toNat_natCast, Int.toNat_natCast]; exact (Or.inr (Or.inl ⟨rfl, hxe, fun q => gc24.f h277 q.2⟩)), by decide, by rw [show s23 10 0 0 = 0 by omega]⟩⟩⟩, ⟨(hM.1.fg hG23), hA23, hD23⟩, hG23.fc⟩)
                    · refine v_bipush hX (by decide +kernel) (atL dAX8_key_1 23 rfl) ?_
                      exact v_iret hX (atL dAX8_key_1 24 rfl) (hret _ _ ⟨A, Or.inr ⟨by omega, Or.inr ⟨by rw [Int.toNat_natCast, Int.toNat_natCast]; exact hRP, Or.inl ⟨_, by rw [Int.toNat_natCast, Int.toNat_natCast, Int.toNat_natCast]; exact (Or.inl ⟨rfl, gc15.t h164⟩), by decide, by rw [show s13 10 0 0 = 0 by omega]⟩⟩⟩, ⟨(hM.1.fg hG13), hA13, hD13⟩, hG13.fc⟩)
                  · refine v_bipush hX (by decide +kernel) (atL dAX8_key_1 18 rfl) ?_
                    exact v_iret hX (atL dAX8_key_1 19 rfl) (hret _ _ ⟨A, Or.inr ⟨by omega, Or.inl ⟨_, by rw [Int.toNat_natCast, Int.toNat_natCast]; exact (Or.inr (Or.inr (Or.inl ⟨rfl, hfit, hPQ, gc14.f h154⟩))), by decide, by rw [show s13 10 0 0 = 0 by omega]⟩⟩, ⟨(hM.1.fg hG13), hA13, hD13⟩, hG13.fc⟩)
                · refine v_bipush hX (by decide +kernel) (atL dAX8_key_1 3 rfl) ?_
                  exact v_iret hX (atL dAX8_key_1 4 rfl) (hret _ _ ⟨A, Or.inr ⟨by omega, Or.inl ⟨_, by rw [Int.toNat_natCast, Int.toNat_natCast]; exact (Or.inr (Or.inl ⟨rfl, hfit, fun q => gc12.f h124 q.2.2.2.2⟩)), by decide, by rw [show s12 10 0 0 = 0 by omega]⟩⟩, ⟨(hM.1.fg hG12), hA12, hD12⟩, hG12.fc⟩)
    · refine v_iconst hX (atL dAX8_key_0 33 rfl) ?_
      exact v_iret hX (atL dAX8_key_0 34 rfl) (hret _ _ ⟨A, Or.inr ⟨by omega, Or.inl ⟨_, by rw [Int.toNat_natCast, Int.toNat_natCast]; exact (Or.inl ⟨rfl, gc6.t h58⟩), by decide, by rw [show s5 10 0 0 = 0 by omega]⟩⟩, ⟨(hM.1.fg hG5), hA5, hD5⟩, hG5.fc⟩)
  · refine v_iconst hX (atL dAX8_key_0 6 rfl) ?_
    exact v_iret hX (atL dAX8_key_0 7 rfl) (hret _ _ ⟨A, Or.inl ⟨by omega, by rw [show s1 10 0 0 = 1 by omega]⟩, ⟨(hM.1.fg hG1), hA1, hD1⟩, hG1.fc⟩)
