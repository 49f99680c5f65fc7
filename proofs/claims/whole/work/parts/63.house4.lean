set_option maxHeartbeats 1000000 in
set_option maxRecDepth 100000 in
theorem c_X6_turnRow (l : Launch) (w : Wl) (σ : St) (hk0 : w.2 0 0) (hA : AR σ) (hD : AD σ) (kx : Nat) (hkv : w.2 5 kx) (P : Nat) (K : Nat → Nat) (hK : KY σ kx P K) (how : Nat) (hho : how = 0 ∨ (how = 1 ∧ P = 8)) (a : Nat) (hav : w.2 1 a) (ha2 : a ≤ 25) (Ma : List Nat) (ha : RW σ a Ma) (hal : Ma.length ≤ 256) : Cn l yX6_turnRow cX6_turnRow 4 (Option.some Jvm.ClassFile.FieldType.boolean) 3 92 wI [.ref (w.1 0 0), .ref (w.1 5 kx), .int (iI ((how : Int))), .ref (w.1 1 a)] w σ (fun x σ' => ((x = 1 ∧ rv Ma < K 0 ∧ RW σ' 26 (be (rv Ma ^ K (1 + how) % K 0) (nby (K 0)))) ∨ (x = 0 ∧ ¬ rv Ma < K 0)) ∧ AR σ' ∧ AD σ' ∧ FH 99 σ σ') := by
  refine Cn.of (own := RX6) (lv := [(0, .ref (w.1 0 0)), (1, .ref (w.1 5 kx)), (2, .int (iI ((how : Int)))), (3, .ref (w.1 1 a))]) (by decide +kernel) rfl (Nat.le_of_ble_eq_true rfl) rfl (fun X hX hxl hR hcl hret => ?_)
  subst hxl
  obtain ⟨lMa, hlMa⟩ : ∃ q, Ma.length = q := ⟨_, rfl⟩
  have hqMa := ha.le
  rw [hlMa] at hqMa
  have hH : ∀ c q, (c, q) ∈ mn σ 0 0 → w.2 c q := fun c q h => hcl 0 0 hk0 (c, q) h
  have hk6 : w.2 6 kx := hcl 5 kx hkv (6, kx) (by simp [mn, tp])
  have hK6 := hK.2.1
  have hKP := hK.1
  have hkp : ∀ j, j < P → w.2 3 (32 + 8 * kx + j) := fun j hj => hcl 6 kx hk6 (3, 32 + 8 * kx + j) (by simp [mn]; omega)
  have hKl := hK.len
  have hK5 := hK.2.2.1
  have hkw := hK.2.2.2.1
  have hK0 := hK.2.2.2.2.1
  have hK1 := hK.2.2.2.2.2
  have hKb := b1024 hK1
  have hw0 := hkw 0 (by omega)
  rw [hlMa] at hal
  refine v_aload_n hX 0 rfl (atL dAX6_turnRow_0 0 rfl) ?_
  refine gf_X6_64 hX hk0 (atL dAX6_turnRow_0 1 rfl) ?_
  refine v_aload_n hX 3 rfl (atL dAX6_turnRow_0 2 rfl) ?_
  refine v_callV hX (As := [.ref (w.1 1 a)]) (rest := []) (c_X5_read (xl X) w σ 0 (hH 3 0 (by simp [mn, tp])) (hD 0) a hav (hA a) (by rw [ha.2, hlMa]; omega)) lk_X6_132 (hH 3 0 (by simp [mn, tp])) (fun _ => rfl) rfl rfl rfl (by rw [hR]; exact ⟨Nat.le_of_ble_eq_true rfl, Nat.le_of_ble_eq_true rfl⟩) ⟨Nat.zero_le _, Nat.zero_le _⟩ rfl (Nat.le_of_ble_eq_true rfl) (atL dAX6_turnRow_0 3 rfl) (fun _ s1 e1 => ?_)
  obtain ⟨hw1, hf1⟩ := e1
  rw [ha.2] at hw1
  have hb1 := rv_b ha.by (by rw [hlMa]; omega)
  have hA1 := hA.fr hf1 (by simp)
  have hD1 := hD.one hf1 hw1
  have hr1_a := ha.fr hf1 (by simp <;> omega) (by simp <;> omega)
  have hw1_328kx0 := nm.fr hw0 hf1 (by simp <;> omega) (by simp <;> omega)
  have hc1_5kx0 := hf1 5 kx (by simp <;> omega)
  have hF1 := (FH.rf : FH 99 σ σ).tr hf1 (by simp [Hk] <;> omega)
  show V X _ w _ _ s1 []
  refine v_aload_n hX 0 rfl (atL dAX6_turnRow_0 4 rfl) ?_
  refine gf_X6_64 hX hk0 (atL dAX6_turnRow_0 5 rfl) ?_
  refine v_aload_n hX 1 rfl (atL dAX6_turnRow_0 6 rfl) ?_
  refine v_iconst hX (atL dAX6_turnRow_0 7 rfl) ?_
  refine v_callV hX (As := [.int (iI (0))]) (rest := [.ref (w.1 3 0)]) (c_X2_at (xl X) w s1 kx hkv P K (hK.frH hF1) 0 (by omega)) lk_X6_211 hkv (fun _ => rfl) rfl rfl rfl (by rw [hR]; exact ⟨Nat.le_of_ble_eq_true rfl, Nat.le_of_ble_eq_true rfl⟩) ⟨Nat.zero_le _, Nat.zero_le _⟩ rfl (Nat.le_of_ble_eq_true rfl) (atL dAX6_turnRow_0 8 rfl) (fun r14 z14 g14 => ?_)
  obtain ⟨ga14, gb14⟩ := g14
  rw [gb14]
  subst ga14
  show V X _ w _ _ s1 [.ref (w.1 3 (32 + 8 * kx + 0)), .ref (w.1 3 0)]
  refine v_callV hX (As := [.ref (w.1 3 (32 + 8 * kx + 0))]) (rest := []) (c_X5_order (xl X) w s1 0 (rv Ma) (hH 3 0 (by simp [mn, tp])) hw1 (32 + 8 * kx + 0) (K 0) (hkp 0 (by omega)) hw1_328kx0) lk_X6_145 (hH 3 0 (by simp [mn, tp])) (fun _ => rfl) rfl rfl rfl (by rw [hR]; exact ⟨Nat.le_of_ble_eq_true rfl, Nat.le_of_ble_eq_true rfl⟩) ⟨Nat.zero_le _, Nat.zero_le _⟩ rfl (Nat.le_of_ble_eq_true rfl) (atL dAX6_turnRow_0 9 rfl) (fun r2 z2 g2 => ?_)
  obtain ⟨ga2, gb2⟩ := g2
  rw [gb2]
  have gc2 : (r2 = -1 ∧ rv Ma < K 0) ∨ (r2 = 0 ∧ rv Ma = K 0) ∨ (r2 = 1 ∧ K 0 < rv Ma) := ord3 ga2
  show V X _ w _ _ s1 [.int (iI (r2))]
  refine v_if_lt hX ⟨by omega, by omega⟩ (tgt := 25) (atL dAX6_turnRow_0 10 rfl) (by decide) (fun h20 => ?_) (fun h20 => ?_)
  · refine v_aload_n hX 0 rfl (atL dAX6_turnRow_0 13 rfl) ?_
    refine gf_X6_35 hX hk0 (atL dAX6_turnRow_0 14 rfl) ?_
    refine v_aload_n hX 0 rfl (atL dAX6_turnRow_0 15 rfl) ?_
    refine gf_X6_64 hX hk0 (atL dAX6_turnRow_0 16 rfl) ?_
    refine v_aload_n hX 1 rfl (atL dAX6_turnRow_0 17 rfl) ?_
    refine v_iload_n hX 2 rfl (atL dAX6_turnRow_0 18 rfl) ?_
    refine v_if_ne hX ⟨by omega, by omega⟩ (tgt := 42) (atL dAX6_turnRow_0 19 rfl) (by decide) (fun h35 => ?_) (fun h35 => ?_)
    · have hwe : WN s1 (32 + 8 * kx + 2) (K 2) := WN_frH (hkw 2 (by omega)) hF1 (by omega)
      refine v_iconst hX (atL dAX6_turnRow_0 22 rfl) ?_
      refine v_callV hX (As := [.int (iI (2))]) (rest := [.ref (w.1 3 0), .ref (w.1 7 0)]) (c_X2_at (xl X) w s1 kx hkv P K (hK.frH hF1) 2 (by omega)) lk_X6_211 hkv (fun _ => rfl) rfl rfl rfl (by rw [hR]; exact ⟨Nat.le_of_ble_eq_true rfl, Nat.le_of_ble_eq_true rfl⟩) ⟨Nat.zero_le _, Nat.zero_le _⟩ rfl (Nat.le_of_ble_eq_true rfl) (atL dAX6_turnRow_0 23 rfl) (fun r43 z43 g43 => ?_)
      obtain ⟨ga43, gb43⟩ := g43
      rw [gb43]
      subst ga43
      show V X _ w _ _ s1 [.ref (w.1 3 (32 + 8 * kx + 2)), .ref (w.1 3 0), .ref (w.1 7 0)]
      refine v_aload_n hX 1 rfl (atL dAX6_turnRow_0 24 rfl) ?_
      refine v_iconst hX (atL dAX6_turnRow_0 25 rfl) ?_
      refine v_callV hX (As := [.int (iI (0))]) (rest := [.ref (w.1 3 (32 + 8 * kx + 2)), .ref (w.1 3 0), .ref (w.1 7 0)]) (c_X2_at (xl X) w s1 kx hkv P K (hK.frH hF1) 0 (by omega)) lk_X6_211 hkv (fun _ => rfl) rfl rfl rfl (by rw [hR]; exact ⟨Nat.le_of_ble_eq_true rfl, Nat.le_of_ble_eq_true rfl⟩) ⟨Nat.zero_le _, Nat.zero_le _⟩ rfl (Nat.le_of_ble_eq_true rfl) (atL dAX6_turnRow_0 26 rfl) (fun r48 z48 g48 => ?_)
      obtain ⟨ga48, gb48⟩ := g48
      rw [gb48]
      subst ga48
      show V X _ w _ _ s1 [.ref (w.1 3 (32 + 8 * kx + 0)), .ref (w.1 3 (32 + 8 * kx + 2)), .ref (w.1 3 0), .ref (w.1 7 0)]
      refine v_aload_n hX 0 rfl (atL dAX6_turnRow_0 27 rfl) ?_
      refine gf_X6_74 hX hk0 (atL dAX6_turnRow_0 28 rfl) ?_
      refine v_callV hX (As := [.ref (w.1 3 0), .ref (w.1 3 (32 + 8 * kx + 2)), .ref (w.1 3 (32 + 8 * kx + 0)), .ref (w.1 3 3)]) (rest := []) (c_X0_power (xl X) w s1 (hH 7 0 (by simp [mn, tp])) 0 (rv Ma) (hH 3 0 (by simp [mn, tp])) hw1 hb1 (by omega) (by omega) (32 + 8 * kx + 2) (K 2) (hkp 2 (by omega)) hwe (by omega) (by omega) (by omega) (by omega) (by omega) (32 + 8 * kx + 0) (K 0) (hkp 0 (by omega)) hw1_328kx0 hK0 hK1 3 (hH 3 3 (by simp [mn, tp])) (hD1 3) (by omega) (by omega) (by omega) (by omega) (by omega) (hD1 7) (hD1 8) (hD1 10) (hD1 11) (hD1 12)) lk_X6_324 (hH 7 0 (by simp [mn, tp])) (fun _ => rfl) rfl rfl rfl (by rw [hR]; exact ⟨Nat.le_of_ble_eq_true rfl, Nat.le_of_ble_eq_true rfl⟩) ⟨Nat.zero_le _, Nat.zero_le _⟩ rfl (Nat.le_of_ble_eq_true rfl) (atL dAX6_turnRow_0 29 rfl) (fun _ s3 e3 => ?_)
      obtain ⟨hw3, q7, q8, q10, q11, q12, hf3⟩ := e3
      have hDp3 : AD s3 := hD1.of hf3 (fun q hq => by simp at hq; rcases hq with e | e | e | e | e | e <;> subst e <;> first | assumption | exact WN.dg hw3)
      have hA3 := hA1.fr hf3 (by simp)
      have hD3 := hDp3
      have hr3_a := hr1_a.fr hf3 (by simp <;> omega) (by simp <;> omega)
      have hw3_328kx0 := nm.fr hw1_328kx0 hf3 (by simp <;> omega) (by simp <;> omega)
      have hw3_0 := nm.fr hw1 hf3 (by simp <;> omega) (by simp <;> omega)
      have hw3_328kx2 := nm.fr hwe hf3 (by simp <;> omega) (by simp <;> omega)
      have hc3_5kx0 := hf3 5 kx (by simp <;> omega)
      have hF3 := hF1.tr hf3 (by simp [Hk] <;> omega)
      show V X _ w _ _ s3 []
      refine v_aload_n hX 0 rfl (atL dAX6_turnRow_0 30 rfl) ?_
      refine gf_X6_74 hX hk0 (atL dAX6_turnRow_0 31 rfl) ?_
      refine v_aload_n hX 0 rfl (atL dAX6_turnRow_0 32 rfl) ?_
      refine gf_X6_58 hX hk0 (atL dAX6_turnRow_0 33 rfl) ?_
      refine v_aload_n hX 1 rfl (atL dAX6_turnRow_0 34 rfl) ?_
      refine gf_X6_223 hX (v := (((blen (K 0) + 7) / 8 : Nat) : Int)) (((congrFun hc3_5kx0 0).trans ((congrFun hc1_5kx0 0).trans hK5))) hkv (atL dAX6_turnRow_0 35 rfl) ?_
      refine v_callV hX (As := [.ref (w.1 1 26), .int (iI ((((blen (K 0) + 7) / 8 : Nat) : Int)))]) (rest := []) (c_X5_write (xl X) w s3 3 ((rv Ma) ^ (K 2) % (K 0)) (hH 3 3 (by simp [mn, tp])) hw3 26 (hH 1 26 (by simp [mn, tp])) (hA3 26) ((blen (K 0) + 7) / 8) (by show _ ≤ 256; omega)) lk_X6_286 (hH 3 3 (by simp [mn, tp])) (fun _ => rfl) rfl rfl rfl (by rw [hR]; exact ⟨Nat.le_of_ble_eq_true rfl, Nat.le_of_ble_eq_true rfl⟩) ⟨Nat.zero_le _, Nat.zero_le _⟩ rfl (Nat.le_of_ble_eq_true rfl) (atL dAX6_turnRow_0 36 rfl) (fun _ s4 e4 => ?_)
      have hl4 : (be ((rv Ma) ^ (K 2) % (K 0)) ((blen (K 0) + 7) / 8)).length = (blen (K 0) + 7) / 8 := be_len
      obtain ⟨hr4, hf4⟩ := RW_of (hA3 26) e4 (by rw [hl4]; show _ ≤ 256; omega) be_by
      have hA4 := hA3.one hr4 hf4 (by simp)
      have hD4 := hD3.fr hf4 (by simp)
      have hr4_a := hr3_a.fr hf4 (by simp <;> omega) (by simp <;> omega)
      have hw4_328kx0 := nm.fr hw3_328kx0 hf4 (by simp <;> omega) (by simp <;> omega)
      have hw4_0 := nm.fr hw3_0 hf4 (by simp <;> omega) (by simp <;> omega)
      have hw4_328kx2 := nm.fr hw3_328kx2 hf4 (by simp <;> omega) (by simp <;> omega)
      have hw4_3 := nm.fr hw3 hf4 (by simp <;> omega) (by simp <;> omega)
      have hc4_5kx0 := hf4 5 kx (by simp <;> omega)
      have hF4 := hF3.tr hf4 (by simp [Hk] <;> omega)
      show V X _ w _ _ s4 []
      refine v_iconst hX (atL dAX6_turnRow_0 37 rfl) ?_
      exact v_zret hX (by decide +kernel) (atL dAX6_turnRow_0 38 rfl) (hret _ _ ⟨Or.inl ⟨rfl, by omega, by rw [show how = 1 by omega]; exact hr4⟩, hA4, hD4, hF4⟩)
    · have hwe : WN s1 (32 + 8 * kx + 1) (K 1) := WN_frH (hkw 1 (by omega)) hF1 (by omega)
      refine v_iconst hX (atL dAX6_turnRow_0 20 rfl) ?_
      refine v_goto hX (tgt := 43) (atL dAX6_turnRow_0 21 rfl) (by decide) ?_
      refine v_callV hX (As := [.int (iI (1))]) (rest := [.ref (w.1 3 0), .ref (w.1 7 0)]) (c_X2_at (xl X) w s1 kx hkv P K (hK.frH hF1) 1 (by omega)) lk_X6_211 hkv (fun _ => rfl) rfl rfl rfl (by rw [hR]; exact ⟨Nat.le_of_ble_eq_true rfl, Nat.le_of_ble_eq_true rfl⟩) ⟨Nat.zero_le _, Nat.zero_le _⟩ rfl (Nat.le_of_ble_eq_true rfl) (atL dAX6_turnRow_0 23 rfl) (fun r43 z43 g43 => ?_)
      obtain ⟨ga43, gb43⟩ := g43
      rw [gb43]
      subst ga43
      show V X _ w _ _ s1 [.ref (w.1 3 (32 + 8 * kx + 1)), .ref (w.1 3 0), .ref (w.1 7 0)]
      refine v_aload_n hX 1 rfl (atL dAX6_turnRow_0 24 rfl) ?_
      refine v_iconst hX (atL dAX6_turnRow_0 25 rfl) ?_
      refine v_callV hX (As := [.int (iI (0))]) (rest := [.ref (w.1 3 (32 + 8 * kx + 1)), .ref (w.1 3 0), .ref (w.1 7 0)]) (c_X2_at (xl X) w s1 kx hkv P K (hK.frH hF1) 0 (by omega)) lk_X6_211 hkv (fun _ => rfl) rfl rfl rfl (by rw [hR]; exact ⟨Nat.le_of_ble_eq_true rfl, Nat.le_of_ble_eq_true rfl⟩) ⟨Nat.zero_le _, Nat.zero_le _⟩ rfl (Nat.le_of_ble_eq_true rfl) (atL dAX6_turnRow_0 26 rfl) (fun r48 z48 g48 => ?_)
      obtain ⟨ga48, gb48⟩ := g48
      rw [gb48]
      subst ga48
      show V X _ w _ _ s1 [.ref (w.1 3 (32 + 8 * kx + 0)), .ref (w.1 3 (32 + 8 * kx + 1)), .ref (w.1 3 0), .ref (w.1 7 0)]
      refine v_aload_n hX 0 rfl (atL dAX6_turnRow_0 27 rfl) ?_
      refine gf_X6_74 hX hk0 (atL dAX6_turnRow_0 28 rfl) ?_
      refine v_callV hX (As := [.ref (w.1 3 0), .ref (w.1 3 (32 + 8 * kx + 1)), .ref (w.1 3 (32 + 8 * kx + 0)), .ref (w.1 3 3)]) (rest := []) (c_X0_power (xl X) w s1 (hH 7 0 (by simp [mn, tp])) 0 (rv Ma) (hH 3 0 (by simp [mn, tp])) hw1 hb1 (by omega) (by omega) (32 + 8 * kx + 1) (K 1) (hkp 1 (by omega)) hwe (by omega) (by omega) (by omega) (by omega) (by omega) (32 + 8 * kx + 0) (K 0) (hkp 0 (by omega)) hw1_328kx0 hK0 hK1 3 (hH 3 3 (by simp [mn, tp])) (hD1 3) (by omega) (by omega) (by omega) (by omega) (by omega) (hD1 7) (hD1 8) (hD1 10) (hD1 11) (hD1 12)) lk_X6_324 (hH 7 0 (by simp [mn, tp])) (fun _ => rfl) rfl rfl rfl (by rw [hR]; exact ⟨Nat.le_of_ble_eq_true rfl, Nat.le_of_ble_eq_true rfl⟩) ⟨Nat.zero_le _, Nat.zero_le _⟩ rfl (Nat.le_of_ble_eq_true rfl) (atL dAX6_turnRow_0 29 rfl) (fun _ s5 e5 => ?_)
      obtain ⟨hw5, q7, q8, q10, q11, q12, hf5⟩ := e5
      have hDp5 : AD s5 := hD1.of hf5 (fun q hq => by simp at hq; rcases hq with e | e | e | e | e | e <;> subst e <;> first | assumption | exact WN.dg hw5)
      have hA5 := hA1.fr hf5 (by simp)
      have hD5 := hDp5
      have hr5_a := hr1_a.fr hf5 (by simp <;> omega) (by simp <;> omega)
      have hw5_328kx0 := nm.fr hw1_328kx0 hf5 (by simp <;> omega) (by simp <;> omega)
      have hw5_0 := nm.fr hw1 hf5 (by simp <;> omega) (by simp <;> omega)
      have hw5_328kx1 := nm.fr hwe hf5 (by simp <;> omega) (by simp <;> omega)
      have hc5_5kx0 := hf5 5 kx (by simp <;> omega)
      have hF5 := hF1.tr hf5 (by simp [Hk] <;> omega)
      show V X _ w _ _ s5 []
      refine v_aload_n hX 0 rfl (atL dAX6_turnRow_0 30 rfl) ?_
      refine gf_X6_74 hX hk0 (atL dAX6_turnRow_0 31 rfl) ?_
      refine v_aload_n hX 0 rfl (atL dAX6_turnRow_0 32 rfl) ?_
      refine gf_X6_58 hX hk0 (atL dAX6_turnRow_0 33 rfl) ?_
      refine v_aload_n hX 1 rfl (atL dAX6_turnRow_0 34 rfl) ?_
      refine gf_X6_223 hX (v := (((blen (K 0) + 7) / 8 : Nat) : Int)) (((congrFun hc5_5kx0 0).trans ((congrFun hc1_5kx0 0).trans hK5))) hkv (atL dAX6_turnRow_0 35 rfl) ?_
      refine v_callV hX (As := [.ref (w.1 1 26), .int (iI ((((blen (K 0) + 7) / 8 : Nat) : Int)))]) (rest := []) (c_X5_write (xl X) w s5 3 ((rv Ma) ^ (K 1) % (K 0)) (hH 3 3 (by simp [mn, tp])) hw5 26 (hH 1 26 (by simp [mn, tp])) (hA5 26) ((blen (K 0) + 7) / 8) (by show _ ≤ 256; omega)) lk_X6_286 (hH 3 3 (by simp [mn, tp])) (fun _ => rfl) rfl rfl rfl (by rw [hR]; exact ⟨Nat.le_of_ble_eq_true rfl, Nat.le_of_ble_eq_true rfl⟩) ⟨Nat.zero_le _, Nat.zero_le _⟩ rfl (Nat.le_of_ble_eq_true rfl) (atL dAX6_turnRow_0 36 rfl) (fun _ s6 e6 => ?_)
      have hl6 : (be ((rv Ma) ^ (K 1) % (K 0)) ((blen (K 0) + 7) / 8)).length = (blen (K 0) + 7) / 8 := be_len
      obtain ⟨hr6, hf6⟩ := RW_of (hA5 26) e6 (by rw [hl6]; show _ ≤ 256; omega) be_by
      have hA6 := hA5.one hr6 hf6 (by simp)
      have hD6 := hD5.fr hf6 (by simp)
      have hr6_a := hr5_a.fr hf6 (by simp <;> omega) (by simp <;> omega)
      have hw6_328kx0 := nm.fr hw5_328kx0 hf6 (by simp <;> omega) (by simp <;> omega)
      have hw6_0 := nm.fr hw5_0 hf6 (by simp <;> omega) (by simp <;> omega)
      have hw6_328kx1 := nm.fr hw5_328kx1 hf6 (by simp <;> omega) (by simp <;> omega)
      have hw6_3 := nm.fr hw5 hf6 (by simp <;> omega) (by simp <;> omega)
      have hc6_5kx0 := hf6 5 kx (by simp <;> omega)
      have hF6 := hF5.tr hf6 (by simp [Hk] <;> omega)
      show V X _ w _ _ s6 []
      refine v_iconst hX (atL dAX6_turnRow_0 37 rfl) ?_
      exact v_zret hX (by decide +kernel) (atL dAX6_turnRow_0 38 rfl) (hret _ _ ⟨Or.inl ⟨rfl, by omega, by rw [show how = 0 by omega]; exact hr6⟩, hA6, hD6, hF6⟩)
  · refine v_iconst hX (atL dAX6_turnRow_0 11 rfl) ?_
    exact v_zret hX (by decide +kernel) (atL dAX6_turnRow_0 12 rfl) (hret _ _ ⟨Or.inr ⟨rfl, by omega⟩, hA1, hD1, hF1⟩)

set_option maxHeartbeats 1000000 in
set_option maxRecDepth 100000 in
theorem c_X6_turnWholeRow (l : Launch) (w : Wl) (σ : St) (hk0 : w.2 0 0) (hA : AR σ) (hD : AD σ) (kx : Nat) (hkv : w.2 5 kx) (P : Nat) (K : Nat → Nat) (hK : KY σ kx P K) (how : Nat) (hho : how = 0 ∨ (how = 1 ∧ P = 8)) (a : Nat) (hav : w.2 1 a) (ha2 : a ≤ 25) (Ma : List Nat) (ha : RW σ a Ma) (hal : Ma.length ≤ 256) : Cn l yX6_turnWholeRow cX6_turnWholeRow 4 (Option.some Jvm.ClassFile.FieldType.boolean) 4 115 wI [.ref (w.1 0 0), .ref (w.1 5 kx), .int (iI ((how : Int))), .ref (w.1 1 a)] w σ (fun x σ' => ((x = 1 ∧ Ma.length = nby (K 0) ∧ rv Ma < K 0 ∧ RW σ' 26 (be (rv Ma ^ K (1 + how) % K 0) (nby (K 0)))) ∨ (x = 0 ∧ ¬ (Ma.length = nby (K 0) ∧ rv Ma < K 0))) ∧ AR σ' ∧ AD σ' ∧ FH 99 σ σ') := by
  refine Cn.of (own := RX6) (lv := [(0, .ref (w.1 0 0)), (1, .ref (w.1 5 kx)), (2, .int (iI ((how : Int)))), (3, .ref (w.1 1 a))]) (by decide +kernel) rfl (Nat.le_of_ble_eq_true rfl) rfl (fun X hX hxl hR hcl hret => ?_)
  subst hxl
  obtain ⟨lMa, hlMa⟩ : ∃ q, Ma.length = q := ⟨_, rfl⟩
  have hqMa := ha.le
  rw [hlMa] at hqMa
  have hH : ∀ c q, (c, q) ∈ mn σ 0 0 → w.2 c q := fun c q h => hcl 0 0 hk0 (c, q) h
  have hk6 : w.2 6 kx := hcl 5 kx hkv (6, kx) (by simp [mn, tp])
  have hK6 := hK.2.1
  have hKP := hK.1
  have hkp : ∀ j, j < P → w.2 3 (32 + 8 * kx + j) := fun j hj => hcl 6 kx hk6 (3, 32 + 8 * kx + j) (by simp [mn]; omega)
  have hKl := hK.len
  have hK5 := hK.2.2.1
  rw [hlMa] at hal
  refine v_aload_n hX 3 rfl (atL dAX6_turnWholeRow_0 0 rfl) ?_
  refine gf_X6_86 hX (v := ((lMa : Nat) : Int)) ((ha.len.trans (by rw [hlMa]))) hav (atL dAX6_turnWholeRow_0 1 rfl) ?_
  refine v_aload_n hX 1 rfl (atL dAX6_turnWholeRow_0 2 rfl) ?_
  refine gf_X6_223 hX (v := (((blen (K 0) + 7) / 8 : Nat) : Int)) (hK5) hkv (atL dAX6_turnWholeRow_0 3 rfl) ?_
  refine v_icmp_ne hX ⟨by omega, by omega⟩ ⟨by omega, by omega⟩ (tgt := 25) (atL dAX6_turnWholeRow_0 4 rfl) (by decide) (fun hlen0 => ?_) (fun hlen0 => ?_)
  · have hne : nby (K 0) ≠ Ma.length := by unfold nby; omega
    refine v_iconst hX (atL dAX6_turnWholeRow_0 13 rfl) ?_
    exact v_zret hX (by decide +kernel) (atL dAX6_turnWholeRow_0 14 rfl) (hret _ _ ⟨Or.inr ⟨rfl, fun q => hne q.1.symm⟩, hA, hD, FH.rf⟩)
  · refine v_aload_n hX 0 rfl (atL dAX6_turnWholeRow_0 5 rfl) ?_
    refine v_aload_n hX 1 rfl (atL dAX6_turnWholeRow_0 6 rfl) ?_
    refine v_iload_n hX 2 rfl (atL dAX6_turnWholeRow_0 7 rfl) ?_
    refine v_aload_n hX 3 rfl (atL dAX6_turnWholeRow_0 8 rfl) ?_
    refine v_callV hX (As := [.ref (w.1 5 kx), .int (iI ((how : Int))), .ref (w.1 1 a)]) (rest := []) (c_X6_turnRow (xl X) w σ hk0 hA hD kx hkv P K hK how hho a hav (by omega) Ma ha (by rw [hlMa]; omega)) lk_X6_219 hk0 (fun _ => rfl) rfl rfl rfl (by rw [hR]; exact ⟨Nat.le_of_ble_eq_true rfl, Nat.le_of_ble_eq_true rfl⟩) ⟨Nat.zero_le _, Nat.zero_le _⟩ rfl (Nat.le_of_ble_eq_true rfl) (atL dAX6_turnWholeRow_0 9 rfl) (fun x1 s1 g0 => ?_)
    obtain ⟨g, gA, gD, gF⟩ := g0
    have gr : x1 = 0 ∨ x1 = 1 := by rcases g with q | q <;> omega
    have hlen : nby (K 0) = Ma.length := by unfold nby; omega
    show V X _ w _ _ s1 [.int (iI (x1))]
    refine v_if_eq hX ⟨by omega, by omega⟩ (tgt := 25) (atL dAX6_turnWholeRow_0 10 rfl) (by decide) (fun h18 => ?_) (fun h18 => ?_)
    · refine v_iconst hX (atL dAX6_turnWholeRow_0 13 rfl) ?_
      exact v_zret hX (by decide +kernel) (atL dAX6_turnWholeRow_0 14 rfl) (hret _ _ ⟨Or.inr ⟨rfl, fun q => (g.resolve_left (fun c => by omega)).2 q.2⟩, gA, gD, gF⟩)
    · refine v_iconst hX (atL dAX6_turnWholeRow_0 11 rfl) ?_
      refine v_goto hX (tgt := 26) (atL dAX6_turnWholeRow_0 12 rfl) (by decide) ?_
      exact v_zret hX (by decide +kernel) (atL dAX6_turnWholeRow_0 14 rfl) (hret _ _ ⟨Or.inl ⟨rfl, hlen.symm, (g.resolve_right (fun q => by omega)).2⟩, gA, gD, gF⟩)

set_option maxHeartbeats 1000000 in
set_option maxRecDepth 100000 in
theorem c_X6_putTurned (l : Launch) (w : Wl) (σ : St) (hk0 : w.2 0 0) (hA : AR σ) (hD : AD σ) (kx : Nat) (hkv : w.2 5 kx) (P : Nat) (K : Nat → Nat) (hK : KY σ kx P K) (how : Nat) (hho : how = 0 ∨ (how = 1 ∧ P = 8)) (t : Nat) (htv : w.2 1 t) (ht : t < 24) (Ma : List Nat) (ha : RW σ 25 Ma) (hlt : rv Ma < K 0) : Cn l yX6_putTurned cX6_putTurned 4 (Option.some Jvm.ClassFile.FieldType.int) 4 115 wI [.ref (w.1 0 0), .ref (w.1 5 kx), .int (iI ((how : Int))), .ref (w.1 1 t)] w σ (fun x σ' => x = ((nby (K 0) : Nat) : Int) ∧ RW σ' t (be (rv Ma ^ K (1 + how) % K 0) (nby (K 0))) ∧ AR σ' ∧ AD σ' ∧ FH t σ σ') := by
  refine Cn.of (own := RX6) (lv := [(0, .ref (w.1 0 0)), (1, .ref (w.1 5 kx)), (2, .int (iI ((how : Int)))), (3, .ref (w.1 1 t))]) (by decide +kernel) rfl (Nat.le_of_ble_eq_true rfl) rfl (fun X hX hxl hR hcl hret => ?_)
  subst hxl
  obtain ⟨lMa, hlMa⟩ : ∃ q, Ma.length = q := ⟨_, rfl⟩
  have hqMa := ha.le
  rw [hlMa] at hqMa
  have hH : ∀ c q, (c, q) ∈ mn σ 0 0 → w.2 c q := fun c q h => hcl 0 0 hk0 (c, q) h
  have hk6 : w.2 6 kx := hcl 5 kx hkv (6, kx) (by simp [mn, tp])
  have hK6 := hK.2.1
  have hKP := hK.1
  have hkp : ∀ j, j < P → w.2 3 (32 + 8 * kx + j) := fun j hj => hcl 6 kx hk6 (3, 32 + 8 * kx + j) (by simp [mn]; omega)
  have hKl := hK.len
  have hK5 := hK.2.2.1
  have hal : Ma.length ≤ 256 := ha.cap
  rw [hlMa] at hal
  have hrt := rcap_s ht
  have hKl2 : nby (K 0) ≤ 128 := hKl.1
  refine v_aload_n hX 0 rfl (atL dAX6_putTurned_0 0 rfl) ?_
  refine v_aload_n hX 1 rfl (atL dAX6_putTurned_0 1 rfl) ?_
  refine v_iload_n hX 2 rfl (atL dAX6_putTurned_0 2 rfl) ?_
  refine v_aload_n hX 0 rfl (atL dAX6_putTurned_0 3 rfl) ?_
  refine gf_X6_55 hX hk0 (atL dAX6_putTurned_0 4 rfl) ?_
  refine v_callV hX (As := [.ref (w.1 5 kx), .int (iI ((how : Int))), .ref (w.1 1 25)]) (rest := []) (c_X6_turnRow (xl X) w σ hk0 hA hD kx hkv P K hK how hho 25 (hH 1 25 (by simp [mn, tp])) (by omega) Ma ha (by rw [hlMa]; omega)) lk_X6_219 hk0 (fun _ => rfl) rfl rfl rfl (by rw [hR]; exact ⟨Nat.le_of_ble_eq_true rfl, Nat.le_of_ble_eq_true rfl⟩) ⟨Nat.zero_le _, Nat.zero_le _⟩ rfl (Nat.le_of_ble_eq_true rfl) (atL dAX6_putTurned_0 5 rfl) (fun x1 s1 g0 => ?_)
  obtain ⟨g, gA, gD, gF⟩ := g0
  have hr26 := (g.resolve_right (fun q => q.2 hlt)).2.2
  have hl26 : (be (rv Ma ^ K (1 + how) % K 0) (nby (K 0))).length = nby (K 0) := be_len
  show V X _ w _ _ s1 [.int (iI (x1))]
  refine v_pop hX rfl (atL dAX6_putTurned_0 6 rfl) ?_
  refine v_aload_n hX 3 rfl (atL dAX6_putTurned_0 7 rfl) ?_
  refine v_aload_n hX 0 rfl (atL dAX6_putTurned_0 8 rfl) ?_
  refine gf_X6_58 hX hk0 (atL dAX6_putTurned_0 9 rfl) ?_
  refine v_callV hX (As := [.ref (w.1 1 26)]) (rest := []) (c_X4_take (xl X) w s1 t htv (gA t) 26 (hH 1 26 (by simp [mn, tp])) (gA 26) (by omega) (by rw [hr26.2, hl26]; rw [rcap_s (by omega)]; omega)) lk_X6_117 htv (fun _ => rfl) rfl rfl rfl (by rw [hR]; exact ⟨Nat.le_of_ble_eq_true rfl, Nat.le_of_ble_eq_true rfl⟩) ⟨Nat.zero_le _, Nat.zero_le _⟩ rfl (Nat.le_of_ble_eq_true rfl) (atL dAX6_putTurned_0 10 rfl) (fun _ s1 e1 => ?_)
  rw [hr26.2] at e1
  have hl1 : (be (rv Ma ^ K (1 + how) % K 0) (nby (K 0))).length = nby (K 0) := by rw [hl26]
  obtain ⟨hr1, hf1⟩ := RW_of (M := be (rv Ma ^ K (1 + how) % K 0) (nby (K 0))) (gA t) e1 (by rw [hl1]; rw [rcap_s (by omega)]; omega) (hr26.by)
  have hA1 := gA.one hr1 hf1 (by simp)
  have hD1 := gD.fr hf1 (by simp)
  have hr1_26 := hr26.fr hf1 (by simp <;> omega) (by simp <;> omega)
  have hF1 := (gF.mono (t := t) (by omega)).tr hf1 (by simp [Hk] <;> omega)
  show V X _ w _ _ s1 []
  refine v_aload_n hX 3 rfl (atL dAX6_putTurned_0 11 rfl) ?_
  refine gf_X6_86 hX (v := ((nby (K 0) : Nat) : Int)) ((hr1.len.trans (by rw [hl1]))) htv (atL dAX6_putTurned_0 12 rfl) ?_
  exact v_iret hX (atL dAX6_putTurned_0 13 rfl) (hret _ _ ⟨rfl, hr1, hA1, hD1, hF1⟩)
