theorem few_iff {v : Nat} : v < 2 ^ 512 ↔ nby v ≤ 64 := by
  constructor
  · intro h
    have := blen_le h
    unfold nby
    omega
  · intro h
    exact Nat.lt_of_lt_of_le (blen_lt v) (Nat.pow_le_pow_right (by omega) (by unfold nby at h; omega))
theorem few_lb {v j : Nat} (h : v < 2 ^ 512) (hj : j ≤ 2001) : lb (v + j) 33 := by
  show v + j < 65536 ^ 33
  rw [n_p28]
  have h1 : (2 : Nat) ^ (16 * 33) = 65536 * 2 ^ 512 := by rw [show 16 * 33 = 16 + 512 from rfl, Nat.pow_add]
  have h2 : (1 : Nat) ≤ 2 ^ 512 := Nat.one_le_two_pow
  rw [h1]
  omega
theorem mcal_0 {a b c : Nat} : cal 0 a b c = .inr (a + b) := by simp [cal]
theorem mcal_1r {a b c : Nat} (h : a < b) : cal 1 a b c = .inl (-1) := by simp [cal, h]
theorem mcal_1 {a b c : Nat} (h : ¬ a < b) : cal 1 a b c = .inr (a - b) := by simp [cal, h]
theorem mcal_2 {a b c : Nat} : cal 2 a b c = .inr (a * b) := by simp [cal]
theorem mcal_3r {a b c : Nat} (h : b = 0) : cal 3 a b c = .inl (-2) := by simp [cal, h]
theorem mcal_3 {a b c : Nat} (h : b ≠ 0) : cal 3 a b c = .inr (a / b) := by simp [cal, h]
theorem mcal_4r {a b c : Nat} (h : b = 0) : cal 4 a b c = .inl (-2) := by simp [cal, h]
theorem mcal_4 {a b c : Nat} (h : b ≠ 0) : cal 4 a b c = .inr (a % b) := by simp [cal, h]
theorem mcal_5 {a b c : Nat} : cal 5 a b c = .inr (Nat.gcd a b) := by simp [cal]
theorem mcal_6 {a b c : Nat} : cal 6 a b c = .inr (Nat.lcm a b) := by simp [cal]
theorem mcal_6z {a b c : Nat} (h : a = 0 ∨ b = 0) : cal 6 a b c = .inr 0 := by
  rw [mcal_6]
  rcases h with rfl | rfl
  · rw [Nat.lcm_zero_left]
  · rw [Nat.lcm_zero_right]
theorem mcal_7r {a b c : Nat} (h : b = 0) : cal 7 a b c = .inl (-2) := by simp [cal, h]
theorem mcal_7 {a b c : Nat} (h : b ≠ 0) (h2 : Nat.gcd a b = 1) : cal 7 a b c = .inr (inv a b) := by simp [cal, h, h2]
theorem mcal_7n {a b c : Nat} (h : b ≠ 0) (h2 : Nat.gcd a b ≠ 1) : cal 7 a b c = .inl (-3) := by simp [cal, h, h2]
theorem mcal_8r {a b c : Nat} (h : c = 0) : cal 8 a b c = .inl (-2) := by simp [cal, h]
theorem mcal_8n {a b c : Nat} (h : c ≠ 0) (h2 : 128 < nby c) : cal 8 a b c = .inl (-4) := by simp [cal, h, h2]
theorem mcal_8 {a b c : Nat} (h : c ≠ 0) (h2 : ¬ 128 < nby c) : cal 8 a b c = .inr (a ^ b % c) := by simp [cal, h, h2]

set_option maxHeartbeats 1000000 in
set_option maxRecDepth 100000 in
theorem c_X8_probable [Gh] (l : Launch) (w : Wl) (σ : St) (hk0 : w.2 13 0) (A : Ab) (hM : HM σ A) (p0 : Int) (hp0 : rI p0) : Cn l yX8_probable cX8_probable 2 (Option.some Jvm.ClassFile.FieldType.boolean) 6 153 wI [.ref (w.1 13 0), .int (iI (p0))] w σ (fun a σ' => ∃ A', f_probable A p0 (σ' 10 0 0, a, A') ∧ HM σ' A' ∧ FC σ σ') := by
  refine Cn.of (own := RX8) (lv := [(0, .ref (w.1 13 0)), (1, .int (iI (p0)))]) (by decide +kernel) rfl (Nat.le_of_ble_eq_true rfl) rfl (fun X hX hxl hR hcl hret => ?_)
  subst hxl
  have hQ : ∀ q, (14, q) ∈ mn σ 13 0 → w.2 14 q := fun q h => hcl 13 0 hk0 (14, q) h
  have hQ5 : ∀ q, (14, q) ∈ mn σ 13 0 → w.2 15 q := fun q h => hcl 14 q (hQ q h) (15, q) (by simp [mn, tp])
  have hQ16 : ∀ q, (16, q) ∈ mn σ 13 0 → w.2 16 q := fun q h => hcl 13 0 hk0 (16, q) h
  have hp0a := hp0.1
  have hp0b := hp0.2
  refine v_aload_n hX 0 rfl (atL dAX8_probable_0 0 rfl) ?_
  refine v_iload_n hX 1 rfl (atL dAX8_probable_0 1 rfl) ?_
  refine v_iload_n hX 1 rfl (atL dAX8_probable_0 2 rfl) ?_
  refine v_iload_n hX 1 rfl (atL dAX8_probable_0 3 rfl) ?_
  refine v_callV hX (As := [.int (iI (p0)), .int (iI (p0)), .int (iI (p0))]) (rest := []) (c_X8_are (xl X) w σ hk0 p0 hp0 p0 hp0 p0 hp0) lk_X8_240 hk0 (fun _ => rfl) rfl rfl rfl (by rw [hR]; exact ⟨Nat.le_of_ble_eq_true rfl, Nat.le_of_ble_eq_true rfl⟩) ⟨Nat.zero_le _, Nat.zero_le _⟩ rfl (Nat.le_of_ble_eq_true rfl) (atL dAX8_probable_0 4 rfl) (fun r1 s1 g1 => ?_)
  obtain ⟨gs1, ht1, hG1, hA1, hD1⟩ := are_use g1 FG.rf hM.2.1 hM.2.2
  have gd1 : r1 = 0 ∨ r1 = 1 := by rcases gs1 with q | q <;> omega
  show V X _ w _ _ s1 [.int (iI (r1))]
  refine v_if_ne hX ⟨by omega, by omega⟩ (tgt := 12) (atL dAX8_probable_0 5 rfl) (by decide) (fun h7 => ?_) (fun h7 => ?_)
  · obtain ⟨sp0, rfl⟩ : ∃ q : Nat, p0 = (q : Int) := ⟨p0.toNat, by omega⟩
    obtain ⟨lsp0, hlsp0⟩ : ∃ q, (A.1 sp0).length = q := ⟨_, rfl⟩
    have hqsp0 : lsp0 ≤ 256 := by rw [← hlsp0]; exact hM.1.len (by omega)
    have hbvsp0 : lb (rv (A.1 sp0)) 128 := rv_lb (hM.1.by (by omega)) (hM.1.len (by omega))
    refine v_aload_n hX 0 rfl (atL dAX8_probable_0 8 rfl) ?_
    refine v_iload_n hX 1 rfl (atL dAX8_probable_0 9 rfl) ?_
    refine v_aload_n hX 0 rfl (atL dAX8_probable_0 10 rfl) ?_
    refine gf_X8_80 hX hk0 (atL dAX8_probable_0 11 rfl) ?_
    refine v_callV hX (As := [.int (iI ((sp0 : Int))), .ref (w.1 14 18)]) (rest := []) (c_X8_number (xl X) w s1 hk0 sp0 (by omega) (A.1 sp0) ((hM.1.fg hG1).1 sp0 (by omega)).1 (hM.1.by (by omega)) 18 (hQ 18 (by simp [mn, tp])) (hA1 18)) lk_X8_271 hk0 (fun _ => rfl) rfl rfl rfl (by rw [hR]; exact ⟨Nat.le_of_ble_eq_true rfl, Nat.le_of_ble_eq_true rfl⟩) ⟨Nat.zero_le _, Nat.zero_le _⟩ rfl (Nat.le_of_ble_eq_true rfl) (atL dAX8_probable_0 12 rfl) (fun _ s2 e2 => ?_)
    obtain ⟨hw2, hf2⟩ := e2
    have hA2 := hA1.one hf2 hw2
    have hG2 := hG1.fr hf2 rfl (by decide)
    have hD2 := hD1.fr hf2 (by decide) (by decide) (by decide)
    have ht2 : s2 10 0 0 = 0 := by rw [hf2 10 0 (by decide)]; omega
    show V X _ w _ _ s2 []
    refine v_aload_n hX 0 rfl (atL dAX8_probable_0 13 rfl) ?_
    refine gf_X8_80 hX hk0 (atL dAX8_probable_0 14 rfl) ?_
    refine v_callS hX (As := [.ref (w.1 14 18)]) (rest := []) (c_X8_isFew (xl X) w s2 18 (rv (A.1 sp0)) (hQ 18 (by simp [mn, tp])) hw2) lk_X8_292 rfl (by rw [hR]; exact ⟨Nat.le_of_ble_eq_true rfl, Nat.le_of_ble_eq_true rfl⟩) ⟨Nat.zero_le _, Nat.zero_le _⟩ rfl (Nat.le_of_ble_eq_true rfl) (atL dAX8_probable_0 15 rfl) (fun r3 z3 g3 => ?_)
    obtain ⟨gc3, gb3⟩ := g3
    rw [gb3]
    have gd3 : r3 = 0 ∨ r3 = 1 := by rcases gc3 with q | q <;> omega
    show V X _ w _ _ s2 [.int (iI (r3))]
    refine v_if_eq hX ⟨by omega, by omega⟩ (tgt := 46) (atL dAX8_probable_0 16 rfl) (by decide) (fun h28 => ?_) (fun h28 => ?_)
    · refine v_iconst hX (atL dAX8_probable_0 24 rfl) ?_
      exact v_zret hX (by decide +kernel) (atL dAX8_probable_0 25 rfl) (hret _ _ ⟨A, Or.inr ⟨by omega, 0, by rw [show s2 10 0 0 = 0 by omega], by rw [Int.toNat_natCast]; exact tf_n (fun q => gc3.f h28 q.1)⟩, hM.same hG2 hA2 hD2, hG2.fc⟩)
    · refine v_aload_n hX 0 rfl (atL dAX8_probable_0 17 rfl) ?_
      refine v_aload_n hX 0 rfl (atL dAX8_probable_0 18 rfl) ?_
      refine gf_X8_80 hX hk0 (atL dAX8_probable_0 19 rfl) ?_
      refine v_callV hX (As := [.ref (w.1 14 18)]) (rest := []) (c_X8_isProbable (xl X) w s2 hk0 hA2 18 (rv (A.1 sp0)) (hQ 18 (by simp [mn, tp])) hw2 (n_mono hbvsp0 (by omega)) (by omega)) lk_X8_296 hk0 (fun _ => rfl) rfl rfl rfl (by rw [hR]; exact ⟨Nat.le_of_ble_eq_true rfl, Nat.le_of_ble_eq_true rfl⟩) ⟨Nat.zero_le _, Nat.zero_le _⟩ rfl (Nat.le_of_ble_eq_true rfl) (atL dAX8_probable_0 20 rfl) (fun r4 s4 e4 => ?_)
      obtain ⟨gc4, hAp4, hf4⟩ := e4
      have gd4 : r4 = 0 ∨ r4 = 1 := by rcases gc4 with q | q <;> omega
      have hA4 := hAp4
      have hn4_18 := nm.fr hw2 hf4 (by decide) (by decide)
      have hG4 := hG2.fr hf4 rfl (by decide)
      have hD4 := hD2.fr hf4 (by decide) (by decide) (by decide)
      have ht4 : s4 10 0 0 = 0 := by rw [hf4 10 0 (by decide)]; omega
      show V X _ w _ _ s4 [.int (iI (r4))]
      refine v_if_eq hX ⟨by omega, by omega⟩ (tgt := 46) (atL dAX8_probable_0 21 rfl) (by decide) (fun h39 => ?_) (fun h39 => ?_)
      · refine v_iconst hX (atL dAX8_probable_0 24 rfl) ?_
        exact v_zret hX (by decide +kernel) (atL dAX8_probable_0 25 rfl) (hret _ _ ⟨A, Or.inr ⟨by omega, 0, by rw [show s4 10 0 0 = 0 by omega], by rw [Int.toNat_natCast]; exact tf_n (fun q => gc4.f h39 q.2)⟩, hM.same hG4 hA4 hD4, hG4.fc⟩)
      · refine v_iconst hX (atL dAX8_probable_0 22 rfl) ?_
        refine v_goto hX (tgt := 47) (atL dAX8_probable_0 23 rfl) (by decide) ?_
        exact v_zret hX (by decide +kernel) (atL dAX8_probable_0 25 rfl) (hret _ _ ⟨A, Or.inr ⟨by omega, 1, by rw [show s4 10 0 0 = 0 by omega], by rw [Int.toNat_natCast]; exact tf_p ⟨gc3.t h28, gc4.t h39⟩⟩, hM.same hG4 hA4 hD4, hG4.fc⟩)
  · refine v_iconst hX (atL dAX8_probable_0 6 rfl) ?_
    exact v_zret hX (by decide +kernel) (atL dAX8_probable_0 7 rfl) (hret _ _ ⟨A, Or.inl ⟨by omega, by rw [show s1 10 0 0 = 1 by omega]⟩, hM.same hG1 hA1 hD1, hG1.fc⟩)

set_option maxHeartbeats 1000000 in
set_option maxRecDepth 100000 in
theorem c_X8_next [Gh] (l : Launch) (w : Wl) (σ : St) (hk0 : w.2 13 0) (A : Ab) (hM : HM σ A) (p0 : Int) (hp0 : rI p0) (p1 : Int) (hp1 : rI p1) : Cn l yX8_next cX8_next 4 (Option.some Jvm.ClassFile.FieldType.int) 6 153 wI [.ref (w.1 13 0), .int (iI (p0)), .int (iI (p1))] w σ (fun a σ' => ∃ A', f_next A p0 p1 (σ' 10 0 0, a, A') ∧ HM σ' A' ∧ FC σ σ') := by
  refine Cn.of (own := RX8) (lv := [(0, .ref (w.1 13 0)), (1, .int (iI (p0))), (2, .int (iI (p1)))]) (by decide +kernel) rfl (Nat.le_of_ble_eq_true rfl) rfl (fun X hX hxl hR hcl hret => ?_)
  subst hxl
  have hQ : ∀ q, (14, q) ∈ mn σ 13 0 → w.2 14 q := fun q h => hcl 13 0 hk0 (14, q) h
  have hQ5 : ∀ q, (14, q) ∈ mn σ 13 0 → w.2 15 q := fun q h => hcl 14 q (hQ q h) (15, q) (by simp [mn, tp])
  have hQ16 : ∀ q, (16, q) ∈ mn σ 13 0 → w.2 16 q := fun q h => hcl 13 0 hk0 (16, q) h
  have hp0a := hp0.1
  have hp0b := hp0.2
  have hp1a := hp1.1
  have hp1b := hp1.2
  refine v_aload_n hX 0 rfl (atL dAX8_next_0 0 rfl) ?_
  refine v_iload_n hX 1 rfl (atL dAX8_next_0 1 rfl) ?_
  refine v_iload_n hX 2 rfl (atL dAX8_next_0 2 rfl) ?_
  refine v_iload_n hX 2 rfl (atL dAX8_next_0 3 rfl) ?_
  refine v_callV hX (As := [.int (iI (p0)), .int (iI (p1)), .int (iI (p1))]) (rest := []) (c_X8_are (xl X) w σ hk0 p0 hp0 p1 hp1 p1 hp1) lk_X8_240 hk0 (fun _ => rfl) rfl rfl rfl (by rw [hR]; exact ⟨Nat.le_of_ble_eq_true rfl, Nat.le_of_ble_eq_true rfl⟩) ⟨Nat.zero_le _, Nat.zero_le _⟩ rfl (Nat.le_of_ble_eq_true rfl) (atL dAX8_next_0 4 rfl) (fun r1 s1 g1 => ?_)
  obtain ⟨gs1, ht1, hG1, hA1, hD1⟩ := are_use g1 FG.rf hM.2.1 hM.2.2
  have gd1 : r1 = 0 ∨ r1 = 1 := by rcases gs1 with q | q <;> omega
  show V X _ w _ _ s1 [.int (iI (r1))]
  refine v_if_ne hX ⟨by omega, by omega⟩ (tgt := 12) (atL dAX8_next_0 5 rfl) (by decide) (fun h7 => ?_) (fun h7 => ?_)
  · obtain ⟨sp0, rfl⟩ : ∃ q : Nat, p0 = (q : Int) := ⟨p0.toNat, by omega⟩
    obtain ⟨sp1, rfl⟩ : ∃ q : Nat, p1 = (q : Int) := ⟨p1.toNat, by omega⟩
    obtain ⟨lsp0, hlsp0⟩ : ∃ q, (A.1 sp0).length = q := ⟨_, rfl⟩
    have hqsp0 : lsp0 ≤ 256 := by rw [← hlsp0]; exact hM.1.len (by omega)
    have hbvsp0 : lb (rv (A.1 sp0)) 128 := rv_lb (hM.1.by (by omega)) (hM.1.len (by omega))
    obtain ⟨lsp1, hlsp1⟩ : ∃ q, (A.1 sp1).length = q := ⟨_, rfl⟩
    have hqsp1 : lsp1 ≤ 256 := by rw [← hlsp1]; exact hM.1.len (by omega)
    have hbvsp1 : lb (rv (A.1 sp1)) 128 := rv_lb (hM.1.by (by omega)) (hM.1.len (by omega))
    refine v_aload_n hX 0 rfl (atL dAX8_next_0 8 rfl) ?_
    refine v_iload_n hX 1 rfl (atL dAX8_next_0 9 rfl) ?_
    refine v_aload_n hX 0 rfl (atL dAX8_next_0 10 rfl) ?_
    refine gf_X8_80 hX hk0 (atL dAX8_next_0 11 rfl) ?_
    refine v_callV hX (As := [.int (iI ((sp0 : Int))), .ref (w.1 14 18)]) (rest := []) (c_X8_number (xl X) w s1 hk0 sp0 (by omega) (A.1 sp0) ((hM.1.fg hG1).1 sp0 (by omega)).1 (hM.1.by (by omega)) 18 (hQ 18 (by simp [mn, tp])) (hA1 18)) lk_X8_271 hk0 (fun _ => rfl) rfl rfl rfl (by rw [hR]; exact ⟨Nat.le_of_ble_eq_true rfl, Nat.le_of_ble_eq_true rfl⟩) ⟨Nat.zero_le _, Nat.zero_le _⟩ rfl (Nat.le_of_ble_eq_true rfl) (atL dAX8_next_0 12 rfl) (fun _ s2 e2 => ?_)
    obtain ⟨hw2, hf2⟩ := e2
    have hA2 := hA1.one hf2 hw2
    have hG2 := hG1.fr hf2 rfl (by decide)
    have hD2 := hD1.fr hf2 (by decide) (by decide) (by decide)
    have ht2 : s2 10 0 0 = 0 := by rw [hf2 10 0 (by decide)]; omega
    show V X _ w _ _ s2 []
    refine v_aload_n hX 0 rfl (atL dAX8_next_0 13 rfl) ?_
    refine gf_X8_80 hX hk0 (atL dAX8_next_0 14 rfl) ?_
    refine v_callS hX (As := [.ref (w.1 14 18)]) (rest := []) (c_X8_isFew (xl X) w s2 18 (rv (A.1 sp0)) (hQ 18 (by simp [mn, tp])) hw2) lk_X8_292 rfl (by rw [hR]; exact ⟨Nat.le_of_ble_eq_true rfl, Nat.le_of_ble_eq_true rfl⟩) ⟨Nat.zero_le _, Nat.zero_le _⟩ rfl (Nat.le_of_ble_eq_true rfl) (atL dAX8_next_0 15 rfl) (fun r3 z3 g3 => ?_)
    obtain ⟨gc3, gb3⟩ := g3
    rw [gb3]
    have gd3 : r3 = 0 ∨ r3 = 1 := by rcases gc3 with q | q <;> omega
    show V X _ w _ _ s2 [.int (iI (r3))]
    refine v_if_ne hX ⟨by omega, by omega⟩ (tgt := 34) (atL dAX8_next_0 16 rfl) (by decide) (fun h28 => ?_) (fun h28 => ?_)
    · refine v_iconst hX (atL dAX8_next_0 19 rfl) ?_
      refine v_istore_n hX (i := 3) rfl (lv' := [(3, .int (iI (0))), (0, .ref (w.1 13 0)), (1, .int (iI ((sp0 : Int)))), (2, .int (iI ((sp1 : Int))))]) (Nat.le_of_ble_eq_true rfl) rfl (atL dAX8_next_0 20 rfl) ?_
      have hv64 : rv (A.1 sp0) < 2 ^ 512 := gc3.t h28
      have hn64 := few_iff.mp hv64
      have loop : ∀ (d j : Nat) (t : St), j + d = 2000 → NN t 18 (rv (A.1 sp0) + j) → (∀ i, i < j → ¬ PB (rv (A.1 sp0) + i + 1)) → t 10 0 0 = 0 → FG σ t → AN t → DG t → V X (0, 0) w 36 [(3, .int (iI ((j : Int)))), (0, .ref (w.1 13 0)), (1, .int (iI ((sp0 : Int)))), (2, .int (iI ((sp1 : Int))))] t [] := by
        intro d
        induction d with
        | zero =>
          intro j t hj hw hn htt hGt hAt hDt
          obtain rfl : j = 2000 := by omega
          refine v_iload_n hX 0 rfl (atL dAX8_next_0 21 rfl) ?_
          refine v_sipush hX (by decide +kernel) (atL dAX8_next_0 22 rfl) ?_
          refine v_icmp_ge hX ⟨by omega, by omega⟩ ⟨by omega, by omega⟩ (tgt := 99) (atL dAX8_next_0 23 rfl) (by decide) (fun h40 => ?_) (fun h40 => absurd h40 (by omega))
          refine v_iconst hX (atL dAX8_next_0 50 rfl) ?_
          exact v_iret hX (atL dAX8_next_0 51 rfl) (hret _ _ ⟨A, Or.inr (Or.inr (Or.inr ⟨by omega, by rw [Int.toNat_natCast]; exact hn64, by rw [Int.toNat_natCast]; exact hn, by rw [htt]⟩)), hM.same hGt hAt hDt, hGt.fc⟩)
        | succ d ih =>
          intro j t hj hw hn htt hGt hAt hDt
          refine v_iload_n hX 0 rfl (atL dAX8_next_0 21 rfl) ?_
          refine v_sipush hX (by decide +kernel) (atL dAX8_next_0 22 rfl) ?_
          refine v_icmp_ge hX ⟨by omega, by omega⟩ ⟨by omega, by omega⟩ (tgt := 99) (atL dAX8_next_0 23 rfl) (by decide) (fun h40 => absurd h40 (by omega)) (fun h40 => ?_)
          refine v_aload_n hX 1 rfl (atL dAX8_next_0 24 rfl) ?_
          refine gf_X8_52 hX hk0 (atL dAX8_next_0 25 rfl) ?_
          refine v_iconst hX (atL dAX8_next_0 26 rfl) ?_
          refine v_callN hX (As := [.int (iI (1))]) (rest := []) (c_X7_set (xl X) w t 13 (hQ 13 (by simp [mn, tp])) (hAt 13) 1 (by omega)) lk_X8_196 (hQ 13 (by simp [mn, tp])) (fun _ => rfl) rfl rfl rfl (by rw [hR]; exact ⟨Nat.le_of_ble_eq_true rfl, Nat.le_of_ble_eq_true rfl⟩) ⟨Nat.zero_le _, Nat.zero_le _⟩ rfl (Nat.le_of_ble_eq_true rfl) (atL dAX8_next_0 27 rfl) (fun _ s4 e4 => ?_)
          obtain ⟨hw4, hf4⟩ := e4
          have hA4 := hAt.one hf4 hw4
          have hn4_18 := nm.fr hw hf4 (by decide) (by decide)
          have hG4 := hGt.fr hf4 rfl (by decide)
          have hD4 := hDt.fr hf4 (by decide) (by decide) (by decide)
          have ht4 : s4 10 0 0 = 0 := by rw [hf4 10 0 (by decide)]; omega
          show V X _ w _ _ s4 []
          refine v_aload_n hX 1 rfl (atL dAX8_next_0 28 rfl) ?_
          refine gf_X8_80 hX hk0 (atL dAX8_next_0 29 rfl) ?_
          refine v_aload_n hX 1 rfl (atL dAX8_next_0 30 rfl) ?_
          refine gf_X8_52 hX hk0 (atL dAX8_next_0 31 rfl) ?_
          refine v_callN hX (As := [.ref (w.1 14 13)]) (rest := []) (c_X7_add (xl X) w s4 18 (rv (A.1 sp0) + j) (hQ 18 (by simp [mn, tp])) hn4_18 13 1 (hQ 13 (by simp [mn, tp])) hw4 (by omega) (n_mono (few_lb hv64 (by omega)) (by omega)) (n_mono (show lb 1 1 from (by show 1 < 65536 ^ 1; omega)) (by omega))) lk_X8_211 (hQ 18 (by simp [mn, tp])) (fun _ => rfl) rfl rfl rfl (by rw [hR]; exact ⟨Nat.le_of_ble_eq_true rfl, Nat.le_of_ble_eq_true rfl⟩) ⟨Nat.zero_le _, Nat.zero_le _⟩ rfl (Nat.le_of_ble_eq_true rfl) (atL dAX8_next_0 32 rfl) (fun _ s5 e5 => ?_)
          obtain ⟨hw5, hf5⟩ := e5
          have hb5 : lb (rv (A.1 sp0) + j + 1) 34 := n_add_b (e := 33) (n_mono (few_lb hv64 (by omega)) (by omega)) (n_mono (show lb 1 1 from (by show 1 < 65536 ^ 1; omega)) (by omega))
          have hA5 := hA4.one hf5 hw5
          have hn5_13 := nm.fr hw4 hf5 (by decide) (by decide)
          have hG5 := hG4.fr hf5 rfl (by decide)
          have hD5 := hD4.fr hf5 (by decide) (by decide) (by decide)
          have ht5 : s5 10 0 0 = 0 := by rw [hf5 10 0 (by decide)]; omega
          show V X _ w _ _ s5 []
          refine v_aload_n hX 1 rfl (atL dAX8_next_0 33 rfl) ?_
          refine gf_X8_80 hX hk0 (atL dAX8_next_0 34 rfl) ?_
          refine v_callS hX (As := [.ref (w.1 14 18)]) (rest := []) (c_X8_isFew (xl X) w s5 18 (rv (A.1 sp0) + j + 1) (hQ 18 (by simp [mn, tp])) hw5) lk_X8_292 rfl (by rw [hR]; exact ⟨Nat.le_of_ble_eq_true rfl, Nat.le_of_ble_eq_true rfl⟩) ⟨Nat.zero_le _, Nat.zero_le _⟩ rfl (Nat.le_of_ble_eq_true rfl) (atL dAX8_next_0 35 rfl) (fun r6 z6 g6 => ?_)
          obtain ⟨gc6, gb6⟩ := g6
          rw [gb6]
          have gd6 : r6 = 0 ∨ r6 = 1 := by rcases gc6 with q | q <;> omega
          show V X _ w _ _ s5 [.int (iI (r6))]
          refine v_if_eq hX ⟨by omega, by omega⟩ (tgt := 93) (atL dAX8_next_0 36 rfl) (by decide) (fun h69 => ?_) (fun h69 => ?_)
          · refine v_iinc hX (lv' := [(3, .int (iI (((j : Int)) + 1))), (0, .ref (w.1 13 0)), (1, .int (iI ((sp0 : Int)))), (2, .int (iI ((sp1 : Int))))]) 0 rfl (iI_add _ _) (Nat.le_of_ble_eq_true rfl) rfl (atL dAX8_next_0 48 rfl) ?_
            refine v_goto hX (tgt := 36) (atL dAX8_next_0 49 rfl) (by decide) ?_
            refine v_sub (lv' := [(3, .int (iI (((j : Int)) + 1))), (0, .ref (w.1 13 0)), (1, .int (iI ((sp0 : Int)))), (2, .int (iI ((sp1 : Int))))]) [0, 1, 2, 3] rfl ?_
            rw [show (j : Int) + 1 = ((j + 1 : Nat) : Int) by omega]
            exact ih (j + 1) _ (by omega) hw5 (fun i hi => by rcases Nat.lt_or_ge i j with c | c; exact hn i c; rw [show i = j by omega]; exact (fun q => gc6.f h69 q.1)) (by omega) hG5 hA5 hD5
          · refine v_aload_n hX 1 rfl (atL dAX8_next_0 37 rfl) ?_
            refine v_aload_n hX 1 rfl (atL dAX8_next_0 38 rfl) ?_
            refine gf_X8_80 hX hk0 (atL dAX8_next_0 39 rfl) ?_
            refine v_callV hX (As := [.ref (w.1 14 18)]) (rest := []) (c_X8_isProbable (xl X) w s5 hk0 hA5 18 (rv (A.1 sp0) + j + 1) (hQ 18 (by simp [mn, tp])) hw5 (n_mono hb5 (by omega)) (by omega)) lk_X8_296 hk0 (fun _ => rfl) rfl rfl rfl (by rw [hR]; exact ⟨Nat.le_of_ble_eq_true rfl, Nat.le_of_ble_eq_true rfl⟩) ⟨Nat.zero_le _, Nat.zero_le _⟩ rfl (Nat.le_of_ble_eq_true rfl) (atL dAX8_next_0 40 rfl) (fun r7 s7 e7 => ?_)
            obtain ⟨gc7, hAp7, hf7⟩ := e7
            have gd7 : r7 = 0 ∨ r7 = 1 := by rcases gc7 with q | q <;> omega
            have hA7 := hAp7
            have hn7_18 := nm.fr hw5 hf7 (by decide) (by decide)
            have hG7 := hG5.fr hf7 rfl (by decide)
            have hD7 := hD5.fr hf7 (by decide) (by decide) (by decide)
            have ht7 : s7 10 0 0 = 0 := by rw [hf7 10 0 (by decide)]; omega
            show V X _ w _ _ s7 [.int (iI (r7))]
            refine v_if_eq hX ⟨by omega, by omega⟩ (tgt := 93) (atL dAX8_next_0 41 rfl) (by decide) (fun h80 => ?_) (fun h80 => ?_)
            · refine v_iinc hX (lv' := [(3, .int (iI (((j : Int)) + 1))), (0, .ref (w.1 13 0)), (1, .int (iI ((sp0 : Int)))), (2, .int (iI ((sp1 : Int))))]) 0 rfl (iI_add _ _) (Nat.le_of_ble_eq_true rfl) rfl (atL dAX8_next_0 48 rfl) ?_
              refine v_goto hX (tgt := 36) (atL dAX8_next_0 49 rfl) (by decide) ?_
              refine v_sub (lv' := [(3, .int (iI (((j : Int)) + 1))), (0, .ref (w.1 13 0)), (1, .int (iI ((sp0 : Int)))), (2, .int (iI ((sp1 : Int))))]) [0, 1, 2, 3] rfl ?_
              rw [show (j : Int) + 1 = ((j + 1 : Nat) : Int) by omega]
              exact ih (j + 1) _ (by omega) hn7_18 (fun i hi => by rcases Nat.lt_or_ge i j with c | c; exact hn i c; rw [show i = j by omega]; exact (fun q => gc7.f h80 q.2)) (by omega) hG7 hA7 hD7
            · refine v_aload_n hX 1 rfl (atL dAX8_next_0 42 rfl) ?_
              refine v_aload_n hX 1 rfl (atL dAX8_next_0 43 rfl) ?_
              refine gf_X8_80 hX hk0 (atL dAX8_next_0 44 rfl) ?_
              refine v_iload_n hX 3 rfl (atL dAX8_next_0 45 rfl) ?_
              refine v_callV hX (As := [.ref (w.1 14 18), .int (iI ((sp1 : Int)))]) (rest := []) (c_X8_writesNumber (xl X) w s7 hk0 18 (rv (A.1 sp0) + j + 1) (hQ 18 (by simp [mn, tp])) hn7_18 sp1 (by omega)) lk_X8_275 hk0 (fun _ => rfl) rfl rfl rfl (by rw [hR]; exact ⟨Nat.le_of_ble_eq_true rfl, Nat.le_of_ble_eq_true rfl⟩) ⟨Nat.zero_le _, Nat.zero_le _⟩ rfl (Nat.le_of_ble_eq_true rfl) (atL dAX8_next_0 46 rfl) (fun r8 s8 e8 => ?_)
              show V X _ w _ _ s8 [.int (iI (r8))]
              exact v_iret hX (atL dAX8_next_0 47 rfl) (hret _ _ (by obtain ⟨A', e1, e2, e3⟩ := wn_post (f := putR A sp1 (rv (A.1 sp0) + j + 1)) rfl hM hG7 hA7 hD7 (by omega) (by omega) e8; exact ⟨A', Or.inr (Or.inr (Or.inl ⟨by omega, by rw [Int.toNat_natCast]; exact hn64, j, by omega, by rw [Int.toNat_natCast]; exact ⟨gc6.t h69, gc7.t h80⟩, by rw [Int.toNat_natCast]; exact hn, by rw [Int.toNat_natCast, Int.toNat_natCast]; exact e1.symm⟩)), e2, e3⟩))
      refine v_sub (lv' := [(3, .int (iI (0))), (0, .ref (w.1 13 0)), (1, .int (iI ((sp0 : Int)))), (2, .int (iI ((sp1 : Int))))]) [0, 1, 2, 3] rfl ?_
      exact loop 2000 0 s2 (by omega) hw2 (fun i hi => absurd hi (by omega)) (by omega) hG2 hA2 hD2
    · refine v_bipush hX (by decide +kernel) (atL dAX8_next_0 17 rfl) ?_
      exact v_iret hX (atL dAX8_next_0 18 rfl) (hret _ _ ⟨A, Or.inr (Or.inl ⟨by omega, by rw [Int.toNat_natCast]; exact Nat.lt_of_not_le (fun q => gc3.f h28 (few_iff.mpr q)), by rw [show s2 10 0 0 = 0 by omega]⟩), hM.same hG2 hA2 hD2, hG2.fc⟩)
  · refine v_iconst hX (atL dAX8_next_0 6 rfl) ?_
    exact v_iret hX (atL dAX8_next_0 7 rfl) (hret _ _ ⟨A, Or.inl ⟨by omega, by rw [show s1 10 0 0 = 1 by omega]⟩, hM.same hG1 hA1 hD1, hG1.fc⟩)

set_option maxHeartbeats 1000000 in
set_option maxRecDepth 100000 in
theorem c_X8_powers [Gh] (l : Launch) (w : Wl) (σ : St) (hk0 : w.2 13 0) (A : Ab) (hM : HM σ A) (h0 : σ 10 0 0 = 0) (a b c : Nat) (h1 : NN σ 18 a) (h2 : NN σ 19 b) (h3 : NN σ 20 c) (bh1 : lb a 128) (bh2 : lb b 128) (bh3 : lb c 128) (t : Nat) (ht : t < 24) : Cn l yX8_powers cX8_powers 2 (Option.some Jvm.ClassFile.FieldType.int) 5 128 wI [.ref (w.1 13 0), .int (iI ((t : Int)))] w σ (fun r σ' => ∃ A', outR A t (cal 8 a b c) = (σ' 10 0 0, r, A') ∧ HM σ' A' ∧ FC σ σ') := by
  refine Cn.of (own := RX8) (lv := [(0, .ref (w.1 13 0)), (1, .int (iI ((t : Int))))]) (by decide +kernel) rfl (Nat.le_of_ble_eq_true rfl) rfl (fun X hX hxl hR hcl hret => ?_)
  subst hxl
  have hQ : ∀ q, (14, q) ∈ mn σ 13 0 → w.2 14 q := fun q h => hcl 13 0 hk0 (14, q) h
  have hQ5 : ∀ q, (14, q) ∈ mn σ 13 0 → w.2 15 q := fun q h => hcl 14 q (hQ q h) (15, q) (by simp [mn, tp])
  have hQ16 : ∀ q, (16, q) ∈ mn σ 13 0 → w.2 16 q := fun q h => hcl 13 0 hk0 (16, q) h
  refine v_aload_n hX 0 rfl (atL dAX8_powers_0 0 rfl) ?_
  refine gf_X8_86 hX hk0 (atL dAX8_powers_0 1 rfl) ?_
  obtain ⟨u1, hu1, hv1, hw1⟩ := nn_u h3
  refine gf_X8_164 hX (v := (u1 : Int)) hu1 (hQ 20 (by simp [mn, tp])) (atL dAX8_powers_0 2 rfl) ?_
  refine v_if_ne hX ⟨by omega, by omega⟩ (tgt := 13) (atL dAX8_powers_0 3 rfl) (by decide) (fun h7 => ?_) (fun h7 => ?_)
  · refine v_aload_n hX 0 rfl (atL dAX8_powers_0 6 rfl) ?_
    refine gf_X8_86 hX hk0 (atL dAX8_powers_0 7 rfl) ?_
    refine v_callN hX (As := []) (rest := []) (c_X7_bytes (xl X) w σ 20 c (hQ 20 (by simp [mn, tp])) h3) lk_X8_217 (hQ 20 (by simp [mn, tp])) (fun _ => rfl) rfl rfl rfl (by rw [hR]; exact ⟨Nat.le_of_ble_eq_true rfl, Nat.le_of_ble_eq_true rfl⟩) ⟨Nat.zero_le _, Nat.zero_le _⟩ rfl (Nat.le_of_ble_eq_true rfl) (atL dAX8_powers_0 8 rfl) (fun r2 z2 g2 => ?_)
    obtain ⟨ga2, gb2⟩ := g2
    rw [gb2]
    subst ga2
    have hbl2 : blen c ≤ 4320 := blen_le (NN.le h3)
    have hby2 : nby c = (blen c + 7) / 8 := rfl
    show V X _ w _ _ σ [.int (iI (((nby c : Nat) : Int)))]
    refine v_sipush hX (by decide +kernel) (atL dAX8_powers_0 9 rfl) ?_
    refine v_icmp_le hX ⟨by omega, by omega⟩ ⟨by omega, by omega⟩ (tgt := 29) (atL dAX8_powers_0 10 rfl) (by decide) (fun h23 => ?_) (fun h23 => ?_)
    · have hc0 : c ≠ 0 := by omega
      refine v_aload_n hX 0 rfl (atL dAX8_powers_0 13 rfl) ?_
      refine v_aload_n hX 0 rfl (atL dAX8_powers_0 14 rfl) ?_
      refine gf_X8_80 hX hk0 (atL dAX8_powers_0 15 rfl) ?_
      refine v_aload_n hX 0 rfl (atL dAX8_powers_0 16 rfl) ?_
      refine gf_X8_83 hX hk0 (atL dAX8_powers_0 17 rfl) ?_
      refine v_aload_n hX 0 rfl (atL dAX8_powers_0 18 rfl) ?_
      refine gf_X8_86 hX hk0 (atL dAX8_powers_0 19 rfl) ?_
      refine v_aload_n hX 0 rfl (atL dAX8_powers_0 20 rfl) ?_
      refine gf_X8_89 hX hk0 (atL dAX8_powers_0 21 rfl) ?_
      refine v_callV hX (As := [.ref (w.1 14 18), .ref (w.1 14 19), .ref (w.1 14 20), .ref (w.1 14 21)]) (rest := []) (c_X8_raise (xl X) w σ hk0 hM.2.1 18 a (hQ 18 (by simp [mn, tp])) h1 (n_mono bh1 (by omega)) (by omega) 19 b (hQ 19 (by simp [mn, tp])) h2 (by omega) 20 c (hQ 20 (by simp [mn, tp])) h3 (n_mono bh3 (by omega)) hc0 (by omega) 21 (hQ 21 (by simp [mn, tp])) (by omega)) lk_X8_231 hk0 (fun _ => rfl) rfl rfl rfl (by rw [hR]; exact ⟨Nat.le_of_ble_eq_true rfl, Nat.le_of_ble_eq_true rfl⟩) ⟨Nat.zero_le _, Nat.zero_le _⟩ rfl (Nat.le_of_ble_eq_true rfl) (atL dAX8_powers_0 22 rfl) (fun _ s3 e3 => ?_)
      obtain ⟨hw3, hAp3, hf3⟩ := e3
      have hA3 := hAp3
      have hn3_18 := nm.fr h1 hf3 (by decide) (by decide)
      have hn3_19 := nm.fr h2 hf3 (by decide) (by decide)
      have hn3_20 := nm.fr h3 hf3 (by decide) (by decide)
      have hG3 := FG.rf.fr hf3 rfl (by decide)
      have hD3 := hM.2.2.fr hf3 (by decide) (by decide) (by decide)
      have ht3 : s3 10 0 0 = 0 := by rw [hf3 10 0 (by decide)]; omega
      show V X _ w _ _ s3 []
      refine v_aload_n hX 0 rfl (atL dAX8_powers_0 23 rfl) ?_
      refine v_aload_n hX 0 rfl (atL dAX8_powers_0 24 rfl) ?_
      refine gf_X8_89 hX hk0 (atL dAX8_powers_0 25 rfl) ?_
      refine v_iload_n hX 1 rfl (atL dAX8_powers_0 26 rfl) ?_
      refine v_callV hX (As := [.ref (w.1 14 21), .int (iI ((t : Int)))]) (rest := []) (c_X8_writesNumber (xl X) w s3 hk0 21 (a ^ b % c) (hQ 21 (by simp [mn, tp])) hw3 t (by omega)) lk_X8_275 hk0 (fun _ => rfl) rfl rfl rfl (by rw [hR]; exact ⟨Nat.le_of_ble_eq_true rfl, Nat.le_of_ble_eq_true rfl⟩) ⟨Nat.zero_le _, Nat.zero_le _⟩ rfl (Nat.le_of_ble_eq_true rfl) (atL dAX8_powers_0 27 rfl) (fun r4 s4 e4 => ?_)
      show V X _ w _ _ s4 [.int (iI (r4))]
      exact v_iret hX (atL dAX8_powers_0 28 rfl) (hret _ _ (wn_post (t := t) (v := a ^ b % c) (by rw [mcal_8 hc0 (by omega)]; rfl) hM hG3 hA3 hD3 (by omega) (by omega) e4))
    · refine v_bipush hX (by decide +kernel) (atL dAX8_powers_0 11 rfl) ?_
      exact v_iret hX (atL dAX8_powers_0 12 rfl) (hret _ _ ⟨A, by rw [h0, mcal_8n (by omega) (by omega)]; rfl, hM, FC.rf⟩)
  · refine v_bipush hX (by decide +kernel) (atL dAX8_powers_0 4 rfl) ?_
    exact v_iret hX (atL dAX8_powers_0 5 rfl) (hret _ _ ⟨A, by rw [h0, mcal_8r (by omega)]; rfl, hM, FC.rf⟩)

set_option maxHeartbeats 1000000 in
set_option maxRecDepth 100000 in
theorem c_X8_calc [Gh] (l : Launch) (w : Wl) (σ : St) (hk0 : w.2 13 0) (A : Ab) (hM : HM σ A) (p0 : Int) (hp0 : rI p0) (p1 : Int) (hp1 : rI p1) (p2 : Int) (hp2 : rI p2) (p3 : Int) (hp3 : rI p3) (p4 : Int) (hp4 : rI p4) : Cn l yX8_calc cX8_calc 6 (Option.some Jvm.ClassFile.FieldType.int) 6 149 wI [.ref (w.1 13 0), .int (iI (p0)), .int (iI (p1)), .int (iI (p2)), .int (iI (p3)), .int (iI (p4))] w σ (fun a σ' => ∃ A', f_calc A p0 p1 p2 p3 p4 = (σ' 10 0 0, a, A') ∧ HM σ' A' ∧ FC σ σ') := by
  refine Cn.of (own := RX8) (lv := [(0, .ref (w.1 13 0)), (1, .int (iI (p0))), (2, .int (iI (p1))), (3, .int (iI (p2))), (4, .int (iI (p3))), (5, .int (iI (p4)))]) (by decide +kernel) rfl (Nat.le_of_ble_eq_true rfl) rfl (fun X hX hxl hR hcl hret => ?_)
  subst hxl
  have hQ : ∀ q, (14, q) ∈ mn σ 13 0 → w.2 14 q := fun q h => hcl 13 0 hk0 (14, q) h
  have hQ5 : ∀ q, (14, q) ∈ mn σ 13 0 → w.2 15 q := fun q h => hcl 14 q (hQ q h) (15, q) (by simp [mn, tp])
  have hQ16 : ∀ q, (16, q) ∈ mn σ 13 0 → w.2 16 q := fun q h => hcl 13 0 hk0 (16, q) h
  have hp0a := hp0.1
  have hp0b := hp0.2
  have hp1a := hp1.1
  have hp1b := hp1.2
  have hp2a := hp2.1
  have hp2b := hp2.2
  have hp3a := hp3.1
  have hp3b := hp3.2
  have hp4a := hp4.1
  have hp4b := hp4.2
  refine v_aload_n hX 0 rfl (atL dAX8_calc_0 0 rfl) ?_
  refine v_iload_n hX 2 rfl (atL dAX8_calc_0 1 rfl) ?_
  refine v_iload_n hX 3 rfl (atL dAX8_calc_0 2 rfl) ?_
  refine v_iload hX 4 rfl (atL dAX8_calc_0 3 rfl) ?_
  refine v_callV hX (As := [.int (iI (p1)), .int (iI (p2)), .int (iI (p3))]) (rest := []) (c_X8_are (xl X) w σ hk0 p1 hp1 p2 hp2 p3 hp3) lk_X8_240 hk0 (fun _ => rfl) rfl rfl rfl (by rw [hR]; exact ⟨Nat.le_of_ble_eq_true rfl, Nat.le_of_ble_eq_true rfl⟩) ⟨Nat.zero_le _, Nat.zero_le _⟩ rfl (Nat.le_of_ble_eq_true rfl) (atL dAX8_calc_0 4 rfl) (fun r1 s1 g1 => ?_)
  obtain ⟨gs1, ht1, hG1, hA1, hD1⟩ := are_use g1 FG.rf hM.2.1 hM.2.2
  have gd1 : r1 = 0 ∨ r1 = 1 := by rcases gs1 with q | q <;> omega
  show V X _ w _ _ s1 [.int (iI (r1))]
  refine v_if_eq hX ⟨by omega, by omega⟩ (tgt := 42) (atL dAX8_calc_0 5 rfl) (by decide) (fun h8 => ?_) (fun h8 => ?_)
  · refine v_iconst hX (atL dAX8_calc_0 21 rfl) ?_
    exact v_iret hX (atL dAX8_calc_0 22 rfl) (hret _ _ ⟨A, by rw [show s1 10 0 0 = 1 by omega]; unfold f_calc; rw [if_pos (by omega)], hM.same hG1 hA1 hD1, hG1.fc⟩)
  · refine v_aload_n hX 0 rfl (atL dAX8_calc_0 6 rfl) ?_
    refine v_iload hX 5 rfl (atL dAX8_calc_0 7 rfl) ?_
    refine v_callV hX (As := [.int (iI (p4))]) (rest := []) (c_X8_isSlot (xl X) w s1 hk0 p4 hp4) lk_X8_237 hk0 (fun _ => rfl) rfl rfl rfl (by rw [hR]; exact ⟨Nat.le_of_ble_eq_true rfl, Nat.le_of_ble_eq_true rfl⟩) ⟨Nat.zero_le _, Nat.zero_le _⟩ rfl (Nat.le_of_ble_eq_true rfl) (atL dAX8_calc_0 8 rfl) (fun r2 s2 g2 => ?_)
    obtain ⟨gs2, ht2, hG2, hA2, hD2⟩ := iss_use g2 (by omega) hG1 hA1 hD1
    have gd2 : r2 = 0 ∨ r2 = 1 := by rcases gs2 with q | q <;> omega
    show V X _ w _ _ s2 [.int (iI (r2))]
    refine v_if_eq hX ⟨by omega, by omega⟩ (tgt := 42) (atL dAX8_calc_0 9 rfl) (by decide) (fun h17 => ?_) (fun h17 => ?_)
    · refine v_iconst hX (atL dAX8_calc_0 21 rfl) ?_
      exact v_iret hX (atL dAX8_calc_0 22 rfl) (hret _ _ ⟨A, by rw [show s2 10 0 0 = 1 by omega]; unfold f_calc; rw [if_pos (by omega)], hM.same hG2 hA2 hD2, hG2.fc⟩)
    · obtain ⟨sp1, rfl⟩ : ∃ q : Nat, p1 = (q : Int) := ⟨p1.toNat, by omega⟩
      obtain ⟨sp2, rfl⟩ : ∃ q : Nat, p2 = (q : Int) := ⟨p2.toNat, by omega⟩
      obtain ⟨sp3, rfl⟩ : ∃ q : Nat, p3 = (q : Int) := ⟨p3.toNat, by omega⟩
      obtain ⟨sp4, rfl⟩ : ∃ q : Nat, p4 = (q : Int) := ⟨p4.toNat, by omega⟩
      obtain ⟨lsp1, hlsp1⟩ : ∃ q, (A.1 sp1).length = q := ⟨_, rfl⟩
      have hqsp1 : lsp1 ≤ 256 := by rw [← hlsp1]; exact hM.1.len (by omega)
      have hbvsp1 : lb (rv (A.1 sp1)) 128 := rv_lb (hM.1.by (by omega)) (hM.1.len (by omega))
      obtain ⟨lsp2, hlsp2⟩ : ∃ q, (A.1 sp2).length = q := ⟨_, rfl⟩
      have hqsp2 : lsp2 ≤ 256 := by rw [← hlsp2]; exact hM.1.len (by omega)
      have hbvsp2 : lb (rv (A.1 sp2)) 128 := rv_lb (hM.1.by (by omega)) (hM.1.len (by omega))
      obtain ⟨lsp3, hlsp3⟩ : ∃ q, (A.1 sp3).length = q := ⟨_, rfl⟩
      have hqsp3 : lsp3 ≤ 256 := by rw [← hlsp3]; exact hM.1.len (by omega)
      have hbvsp3 : lb (rv (A.1 sp3)) 128 := rv_lb (hM.1.by (by omega)) (hM.1.len (by omega))
      obtain ⟨lsp4, hlsp4⟩ : ∃ q, (A.1 sp4).length = q := ⟨_, rfl⟩
      have hqsp4 : lsp4 ≤ 256 := by rw [← hlsp4]; exact hM.1.len (by omega)
      have hbvsp4 : lb (rv (A.1 sp4)) 128 := rv_lb (hM.1.by (by omega)) (hM.1.len (by omega))
      refine v_aload_n hX 0 rfl (atL dAX8_calc_0 10 rfl) ?_
      refine v_iload_n hX 1 rfl (atL dAX8_calc_0 11 rfl) ?_
      refine v_if_lt hX ⟨by omega, by omega⟩ (tgt := 31) (atL dAX8_calc_0 12 rfl) (by decide) (fun h22 => ?_) (fun h22 => ?_)
      · refine v_iconst hX (atL dAX8_calc_0 16 rfl) ?_
        refine v_goto hX (tgt := 36) (atL dAX8_calc_0 17 rfl) (by decide) ?_
        refine v_callV hX (As := [.int (iI (1))]) (rest := []) (c_X8_bad (xl X) w s2 hk0 1 (by decide)) lk_X8_244 hk0 (fun _ => rfl) rfl rfl rfl (by rw [hR]; exact ⟨Nat.le_of_ble_eq_true rfl, Nat.le_of_ble_eq_true rfl⟩) ⟨Nat.zero_le _, Nat.zero_le _⟩ rfl (Nat.le_of_ble_eq_true rfl) (atL dAX8_calc_0 19 rfl) (fun r3 s3 g3 => ?_)
        obtain ⟨gs3, ht3, hG3, hA3, hD3⟩ := bad_use g3 (by omega) hG2 hA2 hD2
        subst gs3
        show V X _ w _ _ s3 [.int (iI (1))]
        refine v_if_eq hX ⟨by omega, by omega⟩ (tgt := 44) (atL dAX8_calc_0 20 rfl) (by decide) (fun h39 => absurd h39 (by omega)) (fun h39 => ?_)
        refine v_iconst hX (atL dAX8_calc_0 21 rfl) ?_
        exact v_iret hX (atL dAX8_calc_0 22 rfl) (hret _ _ ⟨A, by rw [show s3 10 0 0 = 2 by omega]; unfold f_calc; rw [if_neg (by omega), if_pos (by omega)], hM.same hG3 hA3 hD3, hG3.fc⟩)
      · refine v_iload_n hX 1 rfl (atL dAX8_calc_0 13 rfl) ?_
        refine v_bipush hX (by decide +kernel) (atL dAX8_calc_0 14 rfl) ?_
        refine v_icmp_le hX ⟨by omega, by omega⟩ ⟨by omega, by omega⟩ (tgt := 35) (atL dAX8_calc_0 15 rfl) (by decide) (fun h28 => ?_) (fun h28 => ?_)
        · refine v_iconst hX (atL dAX8_calc_0 18 rfl) ?_
          refine v_callV hX (As := [.int (iI (0))]) (rest := []) (c_X8_bad (xl X) w s2 hk0 0 (by decide)) lk_X8_244 hk0 (fun _ => rfl) rfl rfl rfl (by rw [hR]; exact ⟨Nat.le_of_ble_eq_true rfl, Nat.le_of_ble_eq_true rfl⟩) ⟨Nat.zero_le _, Nat.zero_le _⟩ rfl (Nat.le_of_ble_eq_true rfl) (atL dAX8_calc_0 19 rfl) (fun r4 s4 g4 => ?_)
          obtain ⟨gs4, ht4, hG4, hA4, hD4⟩ := bad_use g4 (by omega) hG2 hA2 hD2
          subst gs4
          show V X _ w _ _ s4 [.int (iI (0))]
          refine v_if_eq hX ⟨by omega, by omega⟩ (tgt := 44) (atL dAX8_calc_0 20 rfl) (by decide) (fun h39 => ?_) (fun h39 => absurd h39 (by omega))
          refine v_aload_n hX 0 rfl (atL dAX8_calc_0 23 rfl) ?_
          refine v_iload_n hX 2 rfl (atL dAX8_calc_0 24 rfl) ?_
          refine v_aload_n hX 0 rfl (atL dAX8_calc_0 25 rfl) ?_
          refine gf_X8_80 hX hk0 (atL dAX8_calc_0 26 rfl) ?_
          refine v_callV hX (As := [.int (iI ((sp1 : Int))), .ref (w.1 14 18)]) (rest := []) (c_X8_number (xl X) w s4 hk0 sp1 (by omega) (A.1 sp1) ((hM.1.fg hG4).1 sp1 (by omega)).1 (hM.1.by (by omega)) 18 (hQ 18 (by simp [mn, tp])) (hA4 18)) lk_X8_271 hk0 (fun _ => rfl) rfl rfl rfl (by rw [hR]; exact ⟨Nat.le_of_ble_eq_true rfl, Nat.le_of_ble_eq_true rfl⟩) ⟨Nat.zero_le _, Nat.zero_le _⟩ rfl (Nat.le_of_ble_eq_true rfl) (atL dAX8_calc_0 27 rfl) (fun _ s5 e5 => ?_)
          obtain ⟨hw5, hf5⟩ := e5
          have hA5 := hA4.one hf5 hw5
          have hG5 := hG4.fr hf5 rfl (by decide)
          have hD5 := hD4.fr hf5 (by decide) (by decide) (by decide)
          have ht5 : s5 10 0 0 = 0 := by rw [hf5 10 0 (by decide)]; omega
          show V X _ w _ _ s5 []
          refine v_aload_n hX 0 rfl (atL dAX8_calc_0 28 rfl) ?_
          refine v_iload_n hX 3 rfl (atL dAX8_calc_0 29 rfl) ?_
          refine v_aload_n hX 0 rfl (atL dAX8_calc_0 30 rfl) ?_
          refine gf_X8_83 hX hk0 (atL dAX8_calc_0 31 rfl) ?_
          refine v_callV hX (As := [.int (iI ((sp2 : Int))), .ref (w.1 14 19)]) (rest := []) (c_X8_number (xl X) w s5 hk0 sp2 (by omega) (A.1 sp2) ((hM.1.fg hG5).1 sp2 (by omega)).1 (hM.1.by (by omega)) 19 (hQ 19 (by simp [mn, tp])) (hA5 19)) lk_X8_271 hk0 (fun _ => rfl) rfl rfl rfl (by rw [hR]; exact ⟨Nat.le_of_ble_eq_true rfl, Nat.le_of_ble_eq_true rfl⟩) ⟨Nat.zero_le _, Nat.zero_le _⟩ rfl (Nat.le_of_ble_eq_true rfl) (atL dAX8_calc_0 32 rfl) (fun _ s6 e6 => ?_)
          obtain ⟨hw6, hf6⟩ := e6
          have hA6 := hA5.one hf6 hw6
          have hn6_18 := nm.fr hw5 hf6 (by decide) (by decide)
          have hG6 := hG5.fr hf6 rfl (by decide)
          have hD6 := hD5.fr hf6 (by decide) (by decide) (by decide)
          have ht6 : s6 10 0 0 = 0 := by rw [hf6 10 0 (by decide)]; omega
          show V X _ w _ _ s6 []
          refine v_aload_n hX 0 rfl (atL dAX8_calc_0 33 rfl) ?_
          refine v_iload hX 4 rfl (atL dAX8_calc_0 34 rfl) ?_
          refine v_aload_n hX 0 rfl (atL dAX8_calc_0 35 rfl) ?_
          refine gf_X8_86 hX hk0 (atL dAX8_calc_0 36 rfl) ?_
          refine v_callV hX (As := [.int (iI ((sp3 : Int))), .ref (w.1 14 20)]) (rest := []) (c_X8_number (xl X) w s6 hk0 sp3 (by omega) (A.1 sp3) ((hM.1.fg hG6).1 sp3 (by omega)).1 (hM.1.by (by omega)) 20 (hQ 20 (by simp [mn, tp])) (hA6 20)) lk_X8_271 hk0 (fun _ => rfl) rfl rfl rfl (by rw [hR]; exact ⟨Nat.le_of_ble_eq_true rfl, Nat.le_of_ble_eq_true rfl⟩) ⟨Nat.zero_le _, Nat.zero_le _⟩ rfl (Nat.le_of_ble_eq_true rfl) (atL dAX8_calc_0 37 rfl) (fun _ s7 e7 => ?_)
          obtain ⟨hw7, hf7⟩ := e7
          have hA7 := hA6.one hf7 hw7
          have hn7_18 := nm.fr hn6_18 hf7 (by decide) (by decide)
          have hn7_19 := nm.fr hw6 hf7 (by decide) (by decide)
          have hG7 := hG6.fr hf7 rfl (by decide)
          have hD7 := hD6.fr hf7 (by decide) (by decide) (by decide)
          have ht7 : s7 10 0 0 = 0 := by rw [hf7 10 0 (by decide)]; omega
          show V X _ w _ _ s7 []
          refine v_iload_n hX 1 rfl (atL dAX8_calc_0 38 rfl) ?_
          rcases (show p0 = 0 ∨ p0 = 1 ∨ p0 = 2 ∨ p0 = 3 ∨ p0 = 4 ∨ p0 = 5 ∨ p0 = 6 ∨ p0 = 7 ∨ (p0 < 0 ∨ 7 < p0) by omega) with tq73 | tq73 | tq73 | tq73 | tq73 | tq73 | tq73 | tq73 | tq73
          · refine v_tsIn hX (c := 0) tq73 ⟨by omega, by omega⟩ (atL dAX8_calc_0 39 rfl) (by decide) (by decide) rfl (tgt := 120) (by decide) ?_
            refine v_aload_n hX 0 rfl (atL dAX8_calc_0 40 rfl) ?_
            refine gf_X8_80 hX hk0 (atL dAX8_calc_0 41 rfl) ?_
            refine v_aload_n hX 0 rfl (atL dAX8_calc_0 42 rfl) ?_
            refine gf_X8_83 hX hk0 (atL dAX8_calc_0 43 rfl) ?_
            refine v_callN hX (As := [.ref (w.1 14 19)]) (rest := []) (c_X7_add (xl X) w s7 18 (rv (A.1 sp1)) (hQ 18 (by simp [mn, tp])) hn7_18 19 (rv (A.1 sp2)) (hQ 19 (by simp [mn, tp])) hn7_19 (by omega) (n_mono hbvsp1 (by omega)) (n_mono hbvsp2 (by omega))) lk_X8_211 (hQ 18 (by simp [mn, tp])) (fun _ => rfl) rfl rfl rfl (by rw [hR]; exact ⟨Nat.le_of_ble_eq_true rfl, Nat.le_of_ble_eq_true rfl⟩) ⟨Nat.zero_le _, Nat.zero_le _⟩ rfl (Nat.le_of_ble_eq_true rfl) (atL dAX8_calc_0 44 rfl) (fun _ s8 e8 => ?_)
            obtain ⟨hw8, hf8⟩ := e8
            have hb8 : lb (rv (A.1 sp1) + (rv (A.1 sp2))) 129 := n_add_b (e := 128) (n_mono hbvsp1 (by omega)) (n_mono hbvsp2 (by omega))
            have hA8 := hA7.one hf8 hw8
            have hn8_19 := nm.fr hn7_19 hf8 (by decide) (by decide)
            have hn8_20 := nm.fr hw7 hf8 (by decide) (by decide)
            have hG8 := hG7.fr hf8 rfl (by decide)
            have hD8 := hD7.fr hf8 (by decide) (by decide) (by decide)
            have ht8 : s8 10 0 0 = 0 := by rw [hf8 10 0 (by decide)]; omega
            show V X _ w _ _ s8 []
            refine v_aload_n hX 0 rfl (atL dAX8_calc_0 45 rfl) ?_
            refine v_aload_n hX 0 rfl (atL dAX8_calc_0 46 rfl) ?_
            refine gf_X8_80 hX hk0 (atL dAX8_calc_0 47 rfl) ?_
            refine v_iload hX 5 rfl (atL dAX8_calc_0 48 rfl) ?_
            refine v_callV hX (As := [.ref (w.1 14 18), .int (iI ((sp4 : Int)))]) (rest := []) (c_X8_writesNumber (xl X) w s8 hk0 18 (rv (A.1 sp1) + (rv (A.1 sp2))) (hQ 18 (by simp [mn, tp])) hw8 sp4 (by omega)) lk_X8_275 hk0 (fun _ => rfl) rfl rfl rfl (by rw [hR]; exact ⟨Nat.le_of_ble_eq_true rfl, Nat.le_of_ble_eq_true rfl⟩) ⟨Nat.zero_le _, Nat.zero_le _⟩ rfl (Nat.le_of_ble_eq_true rfl) (atL dAX8_calc_0 49 rfl) (fun r9 s9 e9 => ?_)
            show V X _ w _ _ s9 [.int (iI (r9))]
            exact v_iret hX (atL dAX8_calc_0 50 rfl) (hret _ _ (wn_post (t := sp4) (v := rv (A.1 sp1) + (rv (A.1 sp2))) (by unfold f_calc; simp only [Int.toNat_natCast]; rw [if_neg (by omega), if_neg (by omega), tq73, mcal_0]; rfl) hM hG8 hA8 hD8 (by omega) (by omega) e9))
          · refine v_tsIn hX (c := 1) tq73 ⟨by omega, by omega⟩ (atL dAX8_calc_0 39 rfl) (by decide) (by decide) rfl (tgt := 142) (by decide) ?_
            refine v_aload_n hX 0 rfl (atL dAX8_calc_0 51 rfl) ?_
            refine gf_X8_80 hX hk0 (atL dAX8_calc_0 52 rfl) ?_
            refine v_aload_n hX 0 rfl (atL dAX8_calc_0 53 rfl) ?_
            refine gf_X8_83 hX hk0 (atL dAX8_calc_0 54 rfl) ?_
            refine v_callN hX (As := [.ref (w.1 14 19)]) (rest := []) (c_X7_compare (xl X) w s7 18 (rv (A.1 sp1)) (hQ 18 (by simp [mn, tp])) hn7_18 19 (rv (A.1 sp2)) (hQ 19 (by simp [mn, tp])) hn7_19) lk_X8_160 (hQ 18 (by simp [mn, tp])) (fun _ => rfl) rfl rfl rfl (by rw [hR]; exact ⟨Nat.le_of_ble_eq_true rfl, Nat.le_of_ble_eq_true rfl⟩) ⟨Nat.zero_le _, Nat.zero_le _⟩ rfl (Nat.le_of_ble_eq_true rfl) (atL dAX8_calc_0 55 rfl) (fun r10 z10 g10 => ?_)
            obtain ⟨ga10, gb10⟩ := g10
            rw [gb10]
            have gc10 : (r10 = -1 ∧ rv (A.1 sp1) < rv (A.1 sp2)) ∨ (r10 = 0 ∧ rv (A.1 sp1) = rv (A.1 sp2)) ∨ (r10 = 1 ∧ rv (A.1 sp2) < rv (A.1 sp1)) := ord3 ga10
            show V X _ w _ _ s7 [.int (iI (r10))]
            refine v_if_ge hX ⟨by omega, by omega⟩ (tgt := 158) (atL dAX8_calc_0 56 rfl) (by decide) (fun h153 => ?_) (fun h153 => ?_)
            · refine v_aload_n hX 0 rfl (atL dAX8_calc_0 59 rfl) ?_
              refine gf_X8_80 hX hk0 (atL dAX8_calc_1 0 rfl) ?_
              refine v_aload_n hX 0 rfl (atL dAX8_calc_1 1 rfl) ?_
              refine gf_X8_83 hX hk0 (atL dAX8_calc_1 2 rfl) ?_
              refine v_callN hX (As := [.ref (w.1 14 19)]) (rest := []) (c_X7_less (xl X) w s7 18 (rv (A.1 sp1)) (hQ 18 (by simp [mn, tp])) hn7_18 19 (rv (A.1 sp2)) (hQ 19 (by simp [mn, tp])) hn7_19 (by omega) (by omega)) lk_X8_214 (hQ 18 (by simp [mn, tp])) (fun _ => rfl) rfl rfl rfl (by rw [hR]; exact ⟨Nat.le_of_ble_eq_true rfl, Nat.le_of_ble_eq_true rfl⟩) ⟨Nat.zero_le _, Nat.zero_le _⟩ rfl (Nat.le_of_ble_eq_true rfl) (atL dAX8_calc_1 3 rfl) (fun _ s11 e11 => ?_)
              obtain ⟨hw11, hf11⟩ := e11
              have hA11 := hA7.one hf11 hw11
              have hn11_19 := nm.fr hn7_19 hf11 (by decide) (by decide)
              have hn11_20 := nm.fr hw7 hf11 (by decide) (by decide)
              have hG11 := hG7.fr hf11 rfl (by decide)
              have hD11 := hD7.fr hf11 (by decide) (by decide) (by decide)
              have ht11 : s11 10 0 0 = 0 := by rw [hf11 10 0 (by decide)]; omega
              show V X _ w _ _ s11 []
              refine v_aload_n hX 0 rfl (atL dAX8_calc_1 4 rfl) ?_
              refine v_aload_n hX 0 rfl (atL dAX8_calc_1 5 rfl) ?_
              refine gf_X8_80 hX hk0 (atL dAX8_calc_1 6 rfl) ?_
              refine v_iload hX 5 rfl (atL dAX8_calc_1 7 rfl) ?_
              refine v_callV hX (As := [.ref (w.1 14 18), .int (iI ((sp4 : Int)))]) (rest := []) (c_X8_writesNumber (xl X) w s11 hk0 18 (rv (A.1 sp1) - (rv (A.1 sp2))) (hQ 18 (by simp [mn, tp])) hw11 sp4 (by omega)) lk_X8_275 hk0 (fun _ => rfl) rfl rfl rfl (by rw [hR]; exact ⟨Nat.le_of_ble_eq_true rfl, Nat.le_of_ble_eq_true rfl⟩) ⟨Nat.zero_le _, Nat.zero_le _⟩ rfl (Nat.le_of_ble_eq_true rfl) (atL dAX8_calc_1 8 rfl) (fun r12 s12 e12 => ?_)
              show V X _ w _ _ s12 [.int (iI (r12))]
              exact v_iret hX (atL dAX8_calc_1 9 rfl) (hret _ _ (wn_post (t := sp4) (v := rv (A.1 sp1) - (rv (A.1 sp2))) (by unfold f_calc; simp only [Int.toNat_natCast]; rw [if_neg (by omega), if_neg (by omega), tq73, mcal_1 (by omega)]; rfl) hM hG11 hA11 hD11 (by omega) (by omega) e12))
            · refine v_iconst hX (atL dAX8_calc_0 57 rfl) ?_
              exact v_iret hX (atL dAX8_calc_0 58 rfl) (hret _ _ ⟨A, by rw [show s7 10 0 0 = 0 by omega]; unfold f_calc; simp only [Int.toNat_natCast]; rw [if_neg (by omega), if_neg (by omega), tq73, mcal_1r (by omega)]; rfl, hM.same hG7 hA7 hD7, hG7.fc⟩)
          · refine v_tsIn hX (c := 2) tq73 ⟨by omega, by omega⟩ (atL dAX8_calc_0 39 rfl) (by decide) (by decide) rfl (tgt := 180) (by decide) ?_
            refine v_aload_n hX 0 rfl (atL dAX8_calc_1 10 rfl) ?_
            refine gf_X8_89 hX hk0 (atL dAX8_calc_1 11 rfl) ?_
            refine v_aload_n hX 0 rfl (atL dAX8_calc_1 12 rfl) ?_
            refine gf_X8_80 hX hk0 (atL dAX8_calc_1 13 rfl) ?_
            refine v_aload_n hX 0 rfl (atL dAX8_calc_1 14 rfl) ?_
            refine gf_X8_83 hX hk0 (atL dAX8_calc_1 15 rfl) ?_
            refine v_callN hX (As := [.ref (w.1 14 18), .ref (w.1 14 19)]) (rest := []) (c_X7_product (xl X) w s7 21 (hQ 21 (by simp [mn, tp])) (hA7 21) 18 (rv (A.1 sp1)) (hQ 18 (by simp [mn, tp])) hn7_18 19 (rv (A.1 sp2)) (hQ 19 (by simp [mn, tp])) hn7_19 (by omega) (by omega) 128 128 hbvsp1 hbvsp2 (by omega)) lk_X8_184 (hQ 21 (by simp [mn, tp])) (fun _ => rfl) rfl rfl rfl (by rw [hR]; exact ⟨Nat.le_of_ble_eq_true rfl, Nat.le_of_ble_eq_true rfl⟩) ⟨Nat.zero_le _, Nat.zero_le _⟩ rfl (Nat.le_of_ble_eq_true rfl) (atL dAX8_calc_1 16 rfl) (fun _ s13 e13 => ?_)
            obtain ⟨hw13, hf13⟩ := e13
            have hb13 : lb ((rv (A.1 sp1)) * (rv (A.1 sp2))) 256 := n_mul_b hbvsp1 hbvsp2 (by omega)
            have hA13 := hA7.one hf13 hw13
            have hn13_18 := nm.fr hn7_18 hf13 (by decide) (by decide)
            have hn13_19 := nm.fr hn7_19 hf13 (by decide) (by decide)
            have hn13_20 := nm.fr hw7 hf13 (by decide) (by decide)
            have hG13 := hG7.fr hf13 rfl (by decide)
            have hD13 := hD7.fr hf13 (by decide) (by decide) (by decide)
            have ht13 : s13 10 0 0 = 0 := by rw [hf13 10 0 (by decide)]; omega
            show V X _ w _ _ s13 []
            refine v_aload_n hX 0 rfl (atL dAX8_calc_1 17 rfl) ?_
            refine v_aload_n hX 0 rfl (atL dAX8_calc_1 18 rfl) ?_
            refine gf_X8_89 hX hk0 (atL dAX8_calc_1 19 rfl) ?_
            refine v_iload hX 5 rfl (atL dAX8_calc_1 20 rfl) ?_
            refine v_callV hX (As := [.ref (w.1 14 21), .int (iI ((sp4 : Int)))]) (rest := []) (c_X8_writesNumber (xl X) w s13 hk0 21 ((rv (A.1 sp1)) * (rv (A.1 sp2))) (hQ 21 (by simp [mn, tp])) hw13 sp4 (by omega)) lk_X8_275 hk0 (fun _ => rfl) rfl rfl rfl (by rw [hR]; exact ⟨Nat.le_of_ble_eq_true rfl, Nat.le_of_ble_eq_true rfl⟩) ⟨Nat.zero_le _, Nat.zero_le _⟩ rfl (Nat.le_of_ble_eq_true rfl) (atL dAX8_calc_1 21 rfl) (fun r14 s14 e14 => ?_)
            show V X _ w _ _ s14 [.int (iI (r14))]
            exact v_iret hX (atL dAX8_calc_1 22 rfl) (hret _ _ (wn_post (t := sp4) (v := (rv (A.1 sp1)) * (rv (A.1 sp2))) (by unfold f_calc; simp only [Int.toNat_natCast]; rw [if_neg (by omega), if_neg (by omega), tq73, mcal_2]; rfl) hM hG13 hA13 hD13 (by omega) (by omega) e14))
          · refine v_tsIn hX (c := 3) tq73 ⟨by omega, by omega⟩ (atL dAX8_calc_0 39 rfl) (by decide) (by decide) rfl (tgt := 206) (by decide) ?_
            refine v_aload_n hX 0 rfl (atL dAX8_calc_1 23 rfl) ?_
            refine gf_X8_83 hX hk0 (atL dAX8_calc_1 24 rfl) ?_
            obtain ⟨u15, hu15, hv15, hw15⟩ := nn_u hn7_19
            refine gf_X8_164 hX (v := (u15 : Int)) hu15 (hQ 19 (by simp [mn, tp])) (atL dAX8_calc_1 25 rfl) ?_
            refine v_if_ne hX ⟨by omega, by omega⟩ (tgt := 219) (atL dAX8_calc_1 26 rfl) (by decide) (fun h213 => ?_) (fun h213 => ?_)
            · refine v_aload_n hX 0 rfl (atL dAX8_calc_1 29 rfl) ?_
              refine v_aload_n hX 0 rfl (atL dAX8_calc_1 30 rfl) ?_
              refine gf_X8_80 hX hk0 (atL dAX8_calc_1 31 rfl) ?_
              refine v_aload_n hX 0 rfl (atL dAX8_calc_1 32 rfl) ?_
              refine gf_X8_83 hX hk0 (atL dAX8_calc_1 33 rfl) ?_
              refine v_aload_n hX 0 rfl (atL dAX8_calc_1 34 rfl) ?_
              refine gf_X8_89 hX hk0 (atL dAX8_calc_1 35 rfl) ?_
              refine v_callV hX (As := [.ref (w.1 14 18), .ref (w.1 14 19), .ref (w.1 14 21)]) (rest := []) (c_X8_divide (xl X) w s7 hk0 hA7 18 (rv (A.1 sp1)) (hQ 18 (by simp [mn, tp])) hn7_18 19 (rv (A.1 sp2)) (hQ 19 (by simp [mn, tp])) hn7_19 21 (hQ 21 (by simp [mn, tp])) (by omega) (n_mono hbvsp1 (by omega)) (by omega) (by omega) (by omega) (by omega) (by omega) (by omega)) lk_X8_188 hk0 (fun _ => rfl) rfl rfl rfl (by rw [hR]; exact ⟨Nat.le_of_ble_eq_true rfl, Nat.le_of_ble_eq_true rfl⟩) ⟨Nat.zero_le _, Nat.zero_le _⟩ rfl (Nat.le_of_ble_eq_true rfl) (atL dAX8_calc_1 36 rfl) (fun _ s16 e16 => ?_)
              obtain ⟨hw16, hwq16, hAp16, hf16⟩ := e16
              have hA16 := hAp16
              have hn16_19 := nm.fr hn7_19 hf16 (by decide) (by decide)
              have hn16_20 := nm.fr hw7 hf16 (by decide) (by decide)
              have hG16 := hG7.fr hf16 rfl (by decide)
              have hD16 := hD7.fr hf16 (by decide) (by decide) (by decide)
              have ht16 : s16 10 0 0 = 0 := by rw [hf16 10 0 (by decide)]; omega
              show V X _ w _ _ s16 []
              refine v_aload_n hX 0 rfl (atL dAX8_calc_1 37 rfl) ?_
              refine v_iload_n hX 1 rfl (atL dAX8_calc_1 38 rfl) ?_
              refine v_iconst hX (atL dAX8_calc_1 39 rfl) ?_
              refine v_icmp_ne hX ⟨by omega, by omega⟩ ⟨by omega, by omega⟩ (tgt := 248) (atL dAX8_calc_1 40 rfl) (by decide) (fun h238 => absurd h238 (by omega)) (fun h238 => ?_)
              refine v_aload_n hX 0 rfl (atL dAX8_calc_1 41 rfl) ?_
              refine gf_X8_89 hX hk0 (atL dAX8_calc_1 42 rfl) ?_
              refine v_goto hX (tgt := 252) (atL dAX8_calc_1 43 rfl) (by decide) ?_
              refine v_iload hX 5 rfl (atL dAX8_calc_1 46 rfl) ?_
              refine v_callV hX (As := [.ref (w.1 14 21), .int (iI ((sp4 : Int)))]) (rest := []) (c_X8_writesNumber (xl X) w s16 hk0 21 ((rv (A.1 sp1)) / (rv (A.1 sp2))) (hQ 21 (by simp [mn, tp])) hwq16 sp4 (by omega)) lk_X8_275 hk0 (fun _ => rfl) rfl rfl rfl (by rw [hR]; exact ⟨Nat.le_of_ble_eq_true rfl, Nat.le_of_ble_eq_true rfl⟩) ⟨Nat.zero_le _, Nat.zero_le _⟩ rfl (Nat.le_of_ble_eq_true rfl) (atL dAX8_calc_1 47 rfl) (fun r17 s17 e17 => ?_)
              show V X _ w _ _ s17 [.int (iI (r17))]
              exact v_iret hX (atL dAX8_calc_1 48 rfl) (hret _ _ (wn_post (t := sp4) (v := (rv (A.1 sp1)) / (rv (A.1 sp2))) (by unfold f_calc; simp only [Int.toNat_natCast]; rw [if_neg (by omega), if_neg (by omega), tq73, mcal_3 (by omega)]; rfl) hM hG16 hA16 hD16 (by omega) (by omega) e17))
            · refine v_bipush hX (by decide +kernel) (atL dAX8_calc_1 27 rfl) ?_
              exact v_iret hX (atL dAX8_calc_1 28 rfl) (hret _ _ ⟨A, by rw [show s7 10 0 0 = 0 by omega]; unfold f_calc; simp only [Int.toNat_natCast]; rw [if_neg (by omega), if_neg (by omega), tq73, mcal_3r (by omega)]; rfl, hM.same hG7 hA7 hD7, hG7.fc⟩)
          · refine v_tsIn hX (c := 4) tq73 ⟨by omega, by omega⟩ (atL dAX8_calc_0 39 rfl) (by decide) (by decide) rfl (tgt := 206) (by decide) ?_
            refine v_aload_n hX 0 rfl (atL dAX8_calc_1 23 rfl) ?_
            refine gf_X8_83 hX hk0 (atL dAX8_calc_1 24 rfl) ?_
            obtain ⟨u18, hu18, hv18, hw18⟩ := nn_u hn7_19
            refine gf_X8_164 hX (v := (u18 : Int)) hu18 (hQ 19 (by simp [mn, tp])) (atL dAX8_calc_1 25 rfl) ?_
            refine v_if_ne hX ⟨by omega, by omega⟩ (tgt := 219) (atL dAX8_calc_1 26 rfl) (by decide) (fun h213 => ?_) (fun h213 => ?_)
            · refine v_aload_n hX 0 rfl (atL dAX8_calc_1 29 rfl) ?_
              refine v_aload_n hX 0 rfl (atL dAX8_calc_1 30 rfl) ?_
              refine gf_X8_80 hX hk0 (atL dAX8_calc_1 31 rfl) ?_
              refine v_aload_n hX 0 rfl (atL dAX8_calc_1 32 rfl) ?_
              refine gf_X8_83 hX hk0 (atL dAX8_calc_1 33 rfl) ?_
              refine v_aload_n hX 0 rfl (atL dAX8_calc_1 34 rfl) ?_
              refine gf_X8_89 hX hk0 (atL dAX8_calc_1 35 rfl) ?_
              refine v_callV hX (As := [.ref (w.1 14 18), .ref (w.1 14 19), .ref (w.1 14 21)]) (rest := []) (c_X8_divide (xl X) w s7 hk0 hA7 18 (rv (A.1 sp1)) (hQ 18 (by simp [mn, tp])) hn7_18 19 (rv (A.1 sp2)) (hQ 19 (by simp [mn, tp])) hn7_19 21 (hQ 21 (by simp [mn, tp])) (by omega) (n_mono hbvsp1 (by omega)) (by omega) (by omega) (by omega) (by omega) (by omega) (by omega)) lk_X8_188 hk0 (fun _ => rfl) rfl rfl rfl (by rw [hR]; exact ⟨Nat.le_of_ble_eq_true rfl, Nat.le_of_ble_eq_true rfl⟩) ⟨Nat.zero_le _, Nat.zero_le _⟩ rfl (Nat.le_of_ble_eq_true rfl) (atL dAX8_calc_1 36 rfl) (fun _ s19 e19 => ?_)
              obtain ⟨hw19, hwq19, hAp19, hf19⟩ := e19
              have hA19 := hAp19
              have hn19_19 := nm.fr hn7_19 hf19 (by decide) (by decide)
              have hn19_20 := nm.fr hw7 hf19 (by decide) (by decide)
              have hG19 := hG7.fr hf19 rfl (by decide)
              have hD19 := hD7.fr hf19 (by decide) (by decide) (by decide)
              have ht19 : s19 10 0 0 = 0 := by rw [hf19 10 0 (by decide)]; omega
              show V X _ w _ _ s19 []
              refine v_aload_n hX 0 rfl (atL dAX8_calc_1 37 rfl) ?_
              refine v_iload_n hX 1 rfl (atL dAX8_calc_1 38 rfl) ?_
              refine v_iconst hX (atL dAX8_calc_1 39 rfl) ?_
              refine v_icmp_ne hX ⟨by omega, by omega⟩ ⟨by omega, by omega⟩ (tgt := 248) (atL dAX8_calc_1 40 rfl) (by decide) (fun h238 => ?_) (fun h238 => absurd h238 (by omega))
              refine v_aload_n hX 0 rfl (atL dAX8_calc_1 44 rfl) ?_
              refine gf_X8_80 hX hk0 (atL dAX8_calc_1 45 rfl) ?_
              refine v_iload hX 5 rfl (atL dAX8_calc_1 46 rfl) ?_
              refine v_callV hX (As := [.ref (w.1 14 18), .int (iI ((sp4 : Int)))]) (rest := []) (c_X8_writesNumber (xl X) w s19 hk0 18 ((rv (A.1 sp1)) % (rv (A.1 sp2))) (hQ 18 (by simp [mn, tp])) hw19 sp4 (by omega)) lk_X8_275 hk0 (fun _ => rfl) rfl rfl rfl (by rw [hR]; exact ⟨Nat.le_of_ble_eq_true rfl, Nat.le_of_ble_eq_true rfl⟩) ⟨Nat.zero_le _, Nat.zero_le _⟩ rfl (Nat.le_of_ble_eq_true rfl) (atL dAX8_calc_1 47 rfl) (fun r20 s20 e20 => ?_)
              show V X _ w _ _ s20 [.int (iI (r20))]
              exact v_iret hX (atL dAX8_calc_1 48 rfl) (hret _ _ (wn_post (t := sp4) (v := (rv (A.1 sp1)) % (rv (A.1 sp2))) (by unfold f_calc; simp only [Int.toNat_natCast]; rw [if_neg (by omega), if_neg (by omega), tq73, mcal_4 (by omega)]; rfl) hM hG19 hA19 hD19 (by omega) (by omega) e20))
            · refine v_bipush hX (by decide +kernel) (atL dAX8_calc_1 27 rfl) ?_
              exact v_iret hX (atL dAX8_calc_1 28 rfl) (hret _ _ ⟨A, by rw [show s7 10 0 0 = 0 by omega]; unfold f_calc; simp only [Int.toNat_natCast]; rw [if_neg (by omega), if_neg (by omega), tq73, mcal_4r (by omega)]; rfl, hM.same hG7 hA7 hD7, hG7.fc⟩)
          · refine v_tsIn hX (c := 5) tq73 ⟨by omega, by omega⟩ (atL dAX8_calc_0 39 rfl) (by decide) (by decide) rfl (tgt := 258) (by decide) ?_
            refine v_aload_n hX 0 rfl (atL dAX8_calc_1 49 rfl) ?_
            refine v_aload_n hX 0 rfl (atL dAX8_calc_1 50 rfl) ?_
            refine gf_X8_80 hX hk0 (atL dAX8_calc_1 51 rfl) ?_
            refine v_aload_n hX 0 rfl (atL dAX8_calc_1 52 rfl) ?_
            refine gf_X8_83 hX hk0 (atL dAX8_calc_1 53 rfl) ?_
            refine v_aload_n hX 0 rfl (atL dAX8_calc_1 54 rfl) ?_
            refine gf_X8_89 hX hk0 (atL dAX8_calc_1 55 rfl) ?_
            refine v_callV hX (As := [.ref (w.1 14 18), .ref (w.1 14 19), .ref (w.1 14 21)]) (rest := []) (c_X8_common (xl X) w s7 hk0 hA7 18 (rv (A.1 sp1)) (hQ 18 (by simp [mn, tp])) hn7_18 (n_mono hbvsp1 (by omega)) (by omega) 19 (rv (A.1 sp2)) (hQ 19 (by simp [mn, tp])) hn7_19 (n_mono hbvsp2 (by omega)) (by omega) 21 (hQ 21 (by simp [mn, tp])) (by omega)) lk_X8_279 hk0 (fun _ => rfl) rfl rfl rfl (by rw [hR]; exact ⟨Nat.le_of_ble_eq_true rfl, Nat.le_of_ble_eq_true rfl⟩) ⟨Nat.zero_le _, Nat.zero_le _⟩ rfl (Nat.le_of_ble_eq_true rfl) (atL dAX8_calc_1 56 rfl) (fun _ s21 e21 => ?_)
            obtain ⟨hw21, hAp21, hf21⟩ := e21
            have hb21 : lb (Nat.gcd (rv (A.1 sp1)) (rv (A.1 sp2))) 128 := n_gcd_b (n_mono hbvsp1 (by omega)) (n_mono hbvsp2 (by omega))
            have hA21 := hAp21
            have hn21_18 := nm.fr hn7_18 hf21 (by decide) (by decide)
            have hn21_19 := nm.fr hn7_19 hf21 (by decide) (by decide)
            have hn21_20 := nm.fr hw7 hf21 (by decide) (by decide)
            have hG21 := hG7.fr hf21 rfl (by decide)
            have hD21 := hD7.fr hf21 (by decide) (by decide) (by decide)
            have ht21 : s21 10 0 0 = 0 := by rw [hf21 10 0 (by decide)]; omega
            show V X _ w _ _ s21 []
            refine v_aload_n hX 0 rfl (atL dAX8_calc_1 57 rfl) ?_
            refine v_aload_n hX 0 rfl (atL dAX8_calc_1 58 rfl) ?_
            refine gf_X8_89 hX hk0 (atL dAX8_calc_1 59 rfl) ?_
            refine v_iload hX 5 rfl (atL dAX8_calc_2 0 rfl) ?_
            refine v_callV hX (As := [.ref (w.1 14 21), .int (iI ((sp4 : Int)))]) (rest := []) (c_X8_writesNumber (xl X) w s21 hk0 21 (Nat.gcd (rv (A.1 sp1)) (rv (A.1 sp2))) (hQ 21 (by simp [mn, tp])) hw21 sp4 (by omega)) lk_X8_275 hk0 (fun _ => rfl) rfl rfl rfl (by rw [hR]; exact ⟨Nat.le_of_ble_eq_true rfl, Nat.le_of_ble_eq_true rfl⟩) ⟨Nat.zero_le _, Nat.zero_le _⟩ rfl (Nat.le_of_ble_eq_true rfl) (atL dAX8_calc_2 1 rfl) (fun r22 s22 e22 => ?_)
            show V X _ w _ _ s22 [.int (iI (r22))]
            exact v_iret hX (atL dAX8_calc_2 2 rfl) (hret _ _ (wn_post (t := sp4) (v := Nat.gcd (rv (A.1 sp1)) (rv (A.1 sp2))) (by unfold f_calc; simp only [Int.toNat_natCast]; rw [if_neg (by omega), if_neg (by omega), tq73, mcal_5]; rfl) hM hG21 hA21 hD21 (by omega) (by omega) e22))
          · refine v_tsIn hX (c := 6) tq73 ⟨by omega, by omega⟩ (atL dAX8_calc_0 39 rfl) (by decide) (by decide) rfl (tgt := 285) (by decide) ?_
            refine v_aload_n hX 0 rfl (atL dAX8_calc_2 3 rfl) ?_
            refine gf_X8_80 hX hk0 (atL dAX8_calc_2 4 rfl) ?_
            obtain ⟨u23, hu23, hv23, hw23⟩ := nn_u hn7_18
            refine gf_X8_164 hX (v := (u23 : Int)) hu23 (hQ 18 (by simp [mn, tp])) (atL dAX8_calc_2 5 rfl) ?_
            refine v_if_eq hX ⟨by omega, by omega⟩ (tgt := 305) (atL dAX8_calc_2 6 rfl) (by decide) (fun h292 => ?_) (fun h292 => ?_)
            · refine v_aload_n hX 0 rfl (atL dAX8_calc_2 11 rfl) ?_
              refine gf_X8_89 hX hk0 (atL dAX8_calc_2 12 rfl) ?_
              refine v_iconst hX (atL dAX8_calc_2 13 rfl) ?_
              refine v_callN hX (As := [.int (iI (0))]) (rest := []) (c_X7_set (xl X) w s7 21 (hQ 21 (by simp [mn, tp])) (hA7 21) 0 (by omega)) lk_X8_196 (hQ 21 (by simp [mn, tp])) (fun _ => rfl) rfl rfl rfl (by rw [hR]; exact ⟨Nat.le_of_ble_eq_true rfl, Nat.le_of_ble_eq_true rfl⟩) ⟨Nat.zero_le _, Nat.zero_le _⟩ rfl (Nat.le_of_ble_eq_true rfl) (atL dAX8_calc_2 14 rfl) (fun _ s24 e24 => ?_)
              obtain ⟨hw24, hf24⟩ := e24
              have hA24 := hA7.one hf24 hw24
              have hn24_18 := nm.fr hn7_18 hf24 (by decide) (by decide)
              have hn24_19 := nm.fr hn7_19 hf24 (by decide) (by decide)
              have hn24_20 := nm.fr hw7 hf24 (by decide) (by decide)
              have hG24 := hG7.fr hf24 rfl (by decide)
              have hD24 := hD7.fr hf24 (by decide) (by decide) (by decide)
              have ht24 : s24 10 0 0 = 0 := by rw [hf24 10 0 (by decide)]; omega
              show V X _ w _ _ s24 []
              refine v_goto hX (tgt := 332) (atL dAX8_calc_2 15 rfl) (by decide) ?_
              refine v_aload_n hX 0 rfl (atL dAX8_calc_2 24 rfl) ?_
              refine v_aload_n hX 0 rfl (atL dAX8_calc_2 25 rfl) ?_
              refine gf_X8_89 hX hk0 (atL dAX8_calc_2 26 rfl) ?_
              refine v_iload hX 5 rfl (atL dAX8_calc_2 27 rfl) ?_
              refine v_callV hX (As := [.ref (w.1 14 21), .int (iI ((sp4 : Int)))]) (rest := []) (c_X8_writesNumber (xl X) w s24 hk0 21 0 (hQ 21 (by simp [mn, tp])) hw24 sp4 (by omega)) lk_X8_275 hk0 (fun _ => rfl) rfl rfl rfl (by rw [hR]; exact ⟨Nat.le_of_ble_eq_true rfl, Nat.le_of_ble_eq_true rfl⟩) ⟨Nat.zero_le _, Nat.zero_le _⟩ rfl (Nat.le_of_ble_eq_true rfl) (atL dAX8_calc_2 28 rfl) (fun r25 s25 e25 => ?_)
              show V X _ w _ _ s25 [.int (iI (r25))]
              exact v_iret hX (atL dAX8_calc_2 29 rfl) (hret _ _ (wn_post (t := sp4) (v := 0) (by unfold f_calc; simp only [Int.toNat_natCast]; rw [if_neg (by omega), if_neg (by omega), tq73, mcal_6z (by omega)]; rfl) hM hG24 hA24 hD24 (by omega) (by omega) e25))
            · refine v_aload_n hX 0 rfl (atL dAX8_calc_2 7 rfl) ?_
              refine gf_X8_83 hX hk0 (atL dAX8_calc_2 8 rfl) ?_
              obtain ⟨u26, hu26, hv26, hw26⟩ := nn_u hn7_19
              refine gf_X8_164 hX (v := (u26 : Int)) hu26 (hQ 19 (by simp [mn, tp])) (atL dAX8_calc_2 9 rfl) ?_
              refine v_if_ne hX ⟨by omega, by omega⟩ (tgt := 316) (atL dAX8_calc_2 10 rfl) (by decide) (fun h302 => ?_) (fun h302 => ?_)
              · refine v_aload_n hX 0 rfl (atL dAX8_calc_2 16 rfl) ?_
                refine v_aload_n hX 0 rfl (atL dAX8_calc_2 17 rfl) ?_
                refine gf_X8_80 hX hk0 (atL dAX8_calc_2 18 rfl) ?_
                refine v_aload_n hX 0 rfl (atL dAX8_calc_2 19 rfl) ?_
                refine gf_X8_83 hX hk0 (atL dAX8_calc_2 20 rfl) ?_
                refine v_aload_n hX 0 rfl (atL dAX8_calc_2 21 rfl) ?_
                refine gf_X8_89 hX hk0 (atL dAX8_calc_2 22 rfl) ?_
                refine v_callV hX (As := [.ref (w.1 14 18), .ref (w.1 14 19), .ref (w.1 14 21)]) (rest := []) (c_X8_multiple (xl X) w s7 hk0 hA7 18 (rv (A.1 sp1)) (hQ 18 (by simp [mn, tp])) hn7_18 (n_mono hbvsp1 (by omega)) (by omega) 19 (rv (A.1 sp2)) (hQ 19 (by simp [mn, tp])) hn7_19 (n_mono hbvsp2 (by omega)) (by omega) 21 (hQ 21 (by simp [mn, tp])) (by omega) (by omega)) lk_X8_282 hk0 (fun _ => rfl) rfl rfl rfl (by rw [hR]; exact ⟨Nat.le_of_ble_eq_true rfl, Nat.le_of_ble_eq_true rfl⟩) ⟨Nat.zero_le _, Nat.zero_le _⟩ rfl (Nat.le_of_ble_eq_true rfl) (atL dAX8_calc_2 23 rfl) (fun _ s27 e27 => ?_)
                obtain ⟨hw27, hAp27, hf27⟩ := e27
                have hb27 : lb (Nat.lcm (rv (A.1 sp1)) (rv (A.1 sp2))) 256 := n_lcm_b hbvsp1 hbvsp2
                have hA27 := hAp27
                have hn27_18 := nm.fr hn7_18 hf27 (by decide) (by decide)
                have hn27_19 := nm.fr hn7_19 hf27 (by decide) (by decide)
                have hn27_20 := nm.fr hw7 hf27 (by decide) (by decide)
                have hG27 := hG7.fr hf27 rfl (by decide)
                have hD27 := hD7.fr hf27 (by decide) (by decide) (by decide)
                have ht27 : s27 10 0 0 = 0 := by rw [hf27 10 0 (by decide)]; omega
                show V X _ w _ _ s27 []
                refine v_aload_n hX 0 rfl (atL dAX8_calc_2 24 rfl) ?_
                refine v_aload_n hX 0 rfl (atL dAX8_calc_2 25 rfl) ?_
                refine gf_X8_89 hX hk0 (atL dAX8_calc_2 26 rfl) ?_
                refine v_iload hX 5 rfl (atL dAX8_calc_2 27 rfl) ?_
                refine v_callV hX (As := [.ref (w.1 14 21), .int (iI ((sp4 : Int)))]) (rest := []) (c_X8_writesNumber (xl X) w s27 hk0 21 (Nat.lcm (rv (A.1 sp1)) (rv (A.1 sp2))) (hQ 21 (by simp [mn, tp])) hw27 sp4 (by omega)) lk_X8_275 hk0 (fun _ => rfl) rfl rfl rfl (by rw [hR]; exact ⟨Nat.le_of_ble_eq_true rfl, Nat.le_of_ble_eq_true rfl⟩) ⟨Nat.zero_le _, Nat.zero_le _⟩ rfl (Nat.le_of_ble_eq_true rfl) (atL dAX8_calc_2 28 rfl) (fun r28 s28 e28 => ?_)
                show V X _ w _ _ s28 [.int (iI (r28))]
                exact v_iret hX (atL dAX8_calc_2 29 rfl) (hret _ _ (wn_post (t := sp4) (v := Nat.lcm (rv (A.1 sp1)) (rv (A.1 sp2))) (by unfold f_calc; simp only [Int.toNat_natCast]; rw [if_neg (by omega), if_neg (by omega), tq73, mcal_6]; rfl) hM hG27 hA27 hD27 (by omega) (by omega) e28))
              · refine v_aload_n hX 0 rfl (atL dAX8_calc_2 11 rfl) ?_
                refine gf_X8_89 hX hk0 (atL dAX8_calc_2 12 rfl) ?_
                refine v_iconst hX (atL dAX8_calc_2 13 rfl) ?_
                refine v_callN hX (As := [.int (iI (0))]) (rest := []) (c_X7_set (xl X) w s7 21 (hQ 21 (by simp [mn, tp])) (hA7 21) 0 (by omega)) lk_X8_196 (hQ 21 (by simp [mn, tp])) (fun _ => rfl) rfl rfl rfl (by rw [hR]; exact ⟨Nat.le_of_ble_eq_true rfl, Nat.le_of_ble_eq_true rfl⟩) ⟨Nat.zero_le _, Nat.zero_le _⟩ rfl (Nat.le_of_ble_eq_true rfl) (atL dAX8_calc_2 14 rfl) (fun _ s29 e29 => ?_)
                obtain ⟨hw29, hf29⟩ := e29
                have hA29 := hA7.one hf29 hw29
                have hn29_18 := nm.fr hn7_18 hf29 (by decide) (by decide)
                have hn29_19 := nm.fr hn7_19 hf29 (by decide) (by decide)
                have hn29_20 := nm.fr hw7 hf29 (by decide) (by decide)
                have hG29 := hG7.fr hf29 rfl (by decide)
                have hD29 := hD7.fr hf29 (by decide) (by decide) (by decide)
                have ht29 : s29 10 0 0 = 0 := by rw [hf29 10 0 (by decide)]; omega
                show V X _ w _ _ s29 []
                refine v_goto hX (tgt := 332) (atL dAX8_calc_2 15 rfl) (by decide) ?_
                refine v_aload_n hX 0 rfl (atL dAX8_calc_2 24 rfl) ?_
                refine v_aload_n hX 0 rfl (atL dAX8_calc_2 25 rfl) ?_
                refine gf_X8_89 hX hk0 (atL dAX8_calc_2 26 rfl) ?_
                refine v_iload hX 5 rfl (atL dAX8_calc_2 27 rfl) ?_
                refine v_callV hX (As := [.ref (w.1 14 21), .int (iI ((sp4 : Int)))]) (rest := []) (c_X8_writesNumber (xl X) w s29 hk0 21 0 (hQ 21 (by simp [mn, tp])) hw29 sp4 (by omega)) lk_X8_275 hk0 (fun _ => rfl) rfl rfl rfl (by rw [hR]; exact ⟨Nat.le_of_ble_eq_true rfl, Nat.le_of_ble_eq_true rfl⟩) ⟨Nat.zero_le _, Nat.zero_le _⟩ rfl (Nat.le_of_ble_eq_true rfl) (atL dAX8_calc_2 28 rfl) (fun r30 s30 e30 => ?_)
                show V X _ w _ _ s30 [.int (iI (r30))]
                exact v_iret hX (atL dAX8_calc_2 29 rfl) (hret _ _ (wn_post (t := sp4) (v := 0) (by unfold f_calc; simp only [Int.toNat_natCast]; rw [if_neg (by omega), if_neg (by omega), tq73, mcal_6z (by omega)]; rfl) hM hG29 hA29 hD29 (by omega) (by omega) e30))
          · refine v_tsIn hX (c := 7) tq73 ⟨by omega, by omega⟩ (atL dAX8_calc_0 39 rfl) (by decide) (by decide) rfl (tgt := 343) (by decide) ?_
            refine v_aload_n hX 0 rfl (atL dAX8_calc_2 30 rfl) ?_
            refine gf_X8_83 hX hk0 (atL dAX8_calc_2 31 rfl) ?_
            obtain ⟨u31, hu31, hv31, hw31⟩ := nn_u hn7_19
            refine gf_X8_164 hX (v := (u31 : Int)) hu31 (hQ 19 (by simp [mn, tp])) (atL dAX8_calc_2 32 rfl) ?_
            refine v_if_ne hX ⟨by omega, by omega⟩ (tgt := 356) (atL dAX8_calc_2 33 rfl) (by decide) (fun h350 => ?_) (fun h350 => ?_)
            · refine v_aload_n hX 0 rfl (atL dAX8_calc_2 36 rfl) ?_
              refine v_aload_n hX 0 rfl (atL dAX8_calc_2 37 rfl) ?_
              refine gf_X8_80 hX hk0 (atL dAX8_calc_2 38 rfl) ?_
              refine v_aload_n hX 0 rfl (atL dAX8_calc_2 39 rfl) ?_
              refine gf_X8_83 hX hk0 (atL dAX8_calc_2 40 rfl) ?_
              refine v_aload_n hX 0 rfl (atL dAX8_calc_2 41 rfl) ?_
              refine gf_X8_89 hX hk0 (atL dAX8_calc_2 42 rfl) ?_
              refine v_callV hX (As := [.ref (w.1 14 18), .ref (w.1 14 19), .ref (w.1 14 21)]) (rest := []) (c_X8_invert (xl X) w s7 hk0 hA7 18 (rv (A.1 sp1)) (hQ 18 (by simp [mn, tp])) hn7_18 (n_mono hbvsp1 (by omega)) (by omega) 19 (rv (A.1 sp2)) (hQ 19 (by simp [mn, tp])) hn7_19 (n_mono hbvsp2 (by omega)) (by omega) (by omega) 21 (hQ 21 (by simp [mn, tp])) (by omega)) lk_X8_285 hk0 (fun _ => rfl) rfl rfl rfl (by rw [hR]; exact ⟨Nat.le_of_ble_eq_true rfl, Nat.le_of_ble_eq_true rfl⟩) ⟨Nat.zero_le _, Nat.zero_le _⟩ rfl (Nat.le_of_ble_eq_true rfl) (atL dAX8_calc_2 43 rfl) (fun r32 s32 e32 => ?_)
              obtain ⟨gc32, hAp32, hf32⟩ := e32
              have gd32 : r32 = 0 ∨ r32 = 1 := by rcases gc32 with q | q <;> omega
              have hA32 := hAp32
              have hn32_18 := nm.fr hn7_18 hf32 (by decide) (by decide)
              have hn32_19 := nm.fr hn7_19 hf32 (by decide) (by decide)
              have hn32_20 := nm.fr hw7 hf32 (by decide) (by decide)
              have hG32 := hG7.fr hf32 rfl (by decide)
              have hD32 := hD7.fr hf32 (by decide) (by decide) (by decide)
              have ht32 : s32 10 0 0 = 0 := by rw [hf32 10 0 (by decide)]; omega
              show V X _ w _ _ s32 [.int (iI (r32))]
              refine v_if_eq hX ⟨by omega, by omega⟩ (tgt := 388) (atL dAX8_calc_2 44 rfl) (by decide) (fun h372 => ?_) (fun h372 => ?_)
              · refine v_bipush hX (by decide +kernel) (atL dAX8_calc_2 51 rfl) ?_
                exact v_iret hX (atL dAX8_calc_2 52 rfl) (hret _ _ ⟨A, by rw [show s32 10 0 0 = 0 by omega]; unfold f_calc; simp only [Int.toNat_natCast]; rw [if_neg (by omega), if_neg (by omega), tq73, mcal_7n (by omega) (gc32.resolve_left (fun q => by omega)).2]; rfl, hM.same hG32 hA32 hD32, hG32.fc⟩)
              · obtain ⟨hgcd, ii, hii, hilt, himul⟩ := (gc32.resolve_right (fun q => by omega)).2
                have hinv := inv_eq hgcd hilt himul
                clear himul gc32
                refine v_aload_n hX 0 rfl (atL dAX8_calc_2 45 rfl) ?_
                refine v_aload_n hX 0 rfl (atL dAX8_calc_2 46 rfl) ?_
                refine gf_X8_89 hX hk0 (atL dAX8_calc_2 47 rfl) ?_
                refine v_iload hX 5 rfl (atL dAX8_calc_2 48 rfl) ?_
                refine v_callV hX (As := [.ref (w.1 14 21), .int (iI ((sp4 : Int)))]) (rest := []) (c_X8_writesNumber (xl X) w s32 hk0 21 ii (hQ 21 (by simp [mn, tp])) hii sp4 (by omega)) lk_X8_275 hk0 (fun _ => rfl) rfl rfl rfl (by rw [hR]; exact ⟨Nat.le_of_ble_eq_true rfl, Nat.le_of_ble_eq_true rfl⟩) ⟨Nat.zero_le _, Nat.zero_le _⟩ rfl (Nat.le_of_ble_eq_true rfl) (atL dAX8_calc_2 49 rfl) (fun r33 s33 e33 => ?_)
                show V X _ w _ _ s33 [.int (iI (r33))]
                refine v_goto hX (tgt := 390) (atL dAX8_calc_2 50 rfl) (by decide) ?_
                exact v_iret hX (atL dAX8_calc_2 52 rfl) (hret _ _ (wn_post (t := sp4) (v := ii) (by unfold f_calc; simp only [Int.toNat_natCast]; rw [if_neg (by omega), if_neg (by omega), tq73, mcal_7 (by omega) hgcd, hinv]; rfl) hM hG32 hA32 hD32 (by omega) (by omega) e33))
            · refine v_bipush hX (by decide +kernel) (atL dAX8_calc_2 34 rfl) ?_
              exact v_iret hX (atL dAX8_calc_2 35 rfl) (hret _ _ ⟨A, by rw [show s7 10 0 0 = 0 by omega]; unfold f_calc; simp only [Int.toNat_natCast]; rw [if_neg (by omega), if_neg (by omega), tq73, mcal_7r (by omega)]; rfl, hM.same hG7 hA7 hD7, hG7.fc⟩)
          · refine v_tsOut hX ⟨by omega, by omega⟩ tq73 (atL dAX8_calc_0 39 rfl) (tgt := 391) (by decide) ?_
            refine v_aload_n hX 0 rfl (atL dAX8_calc_2 53 rfl) ?_
            refine v_iload hX 5 rfl (atL dAX8_calc_2 54 rfl) ?_
            refine v_callV hX (As := [.int (iI ((sp4 : Int)))]) (rest := []) (c_X8_powers (xl X) w s7 hk0 A (hM.same hG7 hA7 hD7) (by omega) (rv (A.1 sp1)) (rv (A.1 sp2)) (rv (A.1 sp3)) hn7_18 hn7_19 hw7 hbvsp1 hbvsp2 hbvsp3 sp4 (by omega)) lk_X8_289 hk0 (fun _ => rfl) rfl rfl rfl (by rw [hR]; exact ⟨Nat.le_of_ble_eq_true rfl, Nat.le_of_ble_eq_true rfl⟩) ⟨Nat.zero_le _, Nat.zero_le _⟩ rfl (Nat.le_of_ble_eq_true rfl) (atL dAX8_calc_2 55 rfl) (fun r34 s34 e34 => ?_)
            show V X _ w _ _ s34 [.int (iI (r34))]
            exact v_iret hX (atL dAX8_calc_2 56 rfl) (hret _ _ (by obtain ⟨A', e1, e2, e3⟩ := e34; exact ⟨A', by rw [← e1]; unfold f_calc; simp only [Int.toNat_natCast]; rw [if_neg (by omega), if_neg (by omega), show p0 = 8 by omega], e2, hG7.fc.tr e3⟩))
        · refine v_iconst hX (atL dAX8_calc_0 16 rfl) ?_
          refine v_goto hX (tgt := 36) (atL dAX8_calc_0 17 rfl) (by decide) ?_
          refine v_callV hX (As := [.int (iI (1))]) (rest := []) (c_X8_bad (xl X) w s2 hk0 1 (by decide)) lk_X8_244 hk0 (fun _ => rfl) rfl rfl rfl (by rw [hR]; exact ⟨Nat.le_of_ble_eq_true rfl, Nat.le_of_ble_eq_true rfl⟩) ⟨Nat.zero_le _, Nat.zero_le _⟩ rfl (Nat.le_of_ble_eq_true rfl) (atL dAX8_calc_0 19 rfl) (fun r35 s35 g35 => ?_)
          obtain ⟨gs35, ht35, hG35, hA35, hD35⟩ := bad_use g35 (by omega) hG2 hA2 hD2
          subst gs35
          show V X _ w _ _ s35 [.int (iI (1))]
          refine v_if_eq hX ⟨by omega, by omega⟩ (tgt := 44) (atL dAX8_calc_0 20 rfl) (by decide) (fun h39 => absurd h39 (by omega)) (fun h39 => ?_)
          refine v_iconst hX (atL dAX8_calc_0 21 rfl) ?_
          exact v_iret hX (atL dAX8_calc_0 22 rfl) (hret _ _ ⟨A, by rw [show s35 10 0 0 = 2 by omega]; unfold f_calc; rw [if_neg (by omega), if_pos (by omega)], hM.same hG35 hA35 hD35, hG35.fc⟩)
