set_option maxHeartbeats 1000000 in
set_option maxRecDepth 100000 in
theorem c_X3_showFrom (l : Launch) (w : Wl) (σ : St) (hk10 : w.2 10 0) (v25 : w.2 1 25) (v26 : w.2 1 26) (hA : AR σ) (h : Int) (hh : rI h) (Mf : List Nat) (hf : RW σ 26 Mf) (hfl : 2 * hl h + 2 ≤ Mf.length) (a : Nat) (hav : w.2 1 a) (ha2 : a < 24) (Ma : List Nat) (ha : RW σ a Ma)  : Cn l yX3_showFrom cX3_showFrom 7 (Option.some Jvm.ClassFile.FieldType.boolean) 5 122 wI [.ref (w.1 10 0), .ref (w.1 1 26), .int (iI (h)), .ref (w.1 1 a), .ref (w.1 1 25)] w σ (fun a σ' => ((a = 1 ∧ showOK h Mf Ma ∧ RW σ' 25 (showL h Mf)) ∨ (a = 0 ∧ ¬ showOK h Mf Ma)) ∧ AR σ' ∧ Fr SP σ σ') := by
  refine Cn.of (own := RX3) (lv := [(0, .ref (w.1 10 0)), (1, .ref (w.1 1 26)), (2, .int (iI (h))), (3, .ref (w.1 1 a)), (4, .ref (w.1 1 25))]) (by decide +kernel) rfl (Nat.le_of_ble_eq_true rfl) rfl (fun X hX hxl hR hcl hret => ?_)
  subst hxl
  have hP : ∀ c q, (c, q) ∈ mn σ 10 0 → w.2 c q := fun c q h => hcl 10 0 hk10 (c, q) h
  have hll := hl_le h
  have hlg := hl_ge h
  obtain ⟨lMf, hlMf⟩ : ∃ q, Mf.length = q := ⟨_, rfl⟩
  have hqMf := hf.le
  rw [hlMf] at hqMf
  have hcMf : Mf.length ≤ 256 := hf.cap
  rw [hlMf] at hcMf
  obtain ⟨lMa, hlMa⟩ : ∃ q, Ma.length = q := ⟨_, rfl⟩
  have hqMa := ha.le
  rw [hlMa] at hqMa
  rw [hlMf] at hfl
  refine v_iload_n hX 2 rfl (atL dAX3_showFrom_0 0 rfl) ?_
  refine v_callS hX (As := [.int (iI (h))]) (rest := []) (c_X1_lengthOf (xl X) w σ h hh) lk_X3_36 rfl (by rw [hR]; exact ⟨Nat.le_of_ble_eq_true rfl, Nat.le_of_ble_eq_true rfl⟩) ⟨Nat.zero_le _, Nat.zero_le _⟩ rfl (Nat.le_of_ble_eq_true rfl) (atL dAX3_showFrom_0 1 rfl) (fun r1 z1 g1 => ?_)
  obtain ⟨ga1, gb1⟩ := g1
  rw [gb1]
  subst ga1
  show V X _ w _ _ σ [.int (iI ((hl h : Int)))]
  refine v_istore hX (lv' := [(5, .int (iI ((hl h : Int)))), (0, .ref (w.1 10 0)), (1, .ref (w.1 1 26)), (2, .int (iI (h))), (3, .ref (w.1 1 a)), (4, .ref (w.1 1 25))]) (Nat.le_of_ble_eq_true rfl) rfl (atL dAX3_showFrom_0 2 rfl) ?_
  refine v_aload_n hX 1 rfl (atL dAX3_showFrom_0 3 rfl) ?_
  refine gf_X3_23 hX hk10 (atL dAX3_showFrom_0 4 rfl) ?_
  refine v_aload_n hX 2 rfl (atL dAX3_showFrom_0 5 rfl) ?_
  refine v_iconst hX (atL dAX3_showFrom_0 6 rfl) ?_
  refine v_iload hX 0 rfl (atL dAX3_showFrom_0 7 rfl) ?_
  refine v_callV hX (As := [.ref (w.1 1 26), .int (iI (1)), .int (iI ((hl h : Int)))]) (rest := []) (c_X4_takePart (xl X) w σ 31 (hP 1 31 (by simp [mn, tp])) (hA 31) 26 v26 (hA 26) (by omega) 1 (hl h) (by rw [hf.2, hlMf]; omega) (by show _ ≤ 256; omega)) lk_X3_68 (hP 1 31 (by simp [mn, tp])) (fun _ => rfl) rfl rfl rfl (by rw [hR]; exact ⟨Nat.le_of_ble_eq_true rfl, Nat.le_of_ble_eq_true rfl⟩) ⟨Nat.zero_le _, Nat.zero_le _⟩ rfl (Nat.le_of_ble_eq_true rfl) (atL dAX3_showFrom_0 8 rfl) (fun _ s2 e2 => ?_)
  rw [hf.2] at e2
  have hl2 : ((Mf.drop 1).take (hl h)).length = (hl h) := by rw [List.length_take, List.length_drop, hlMf]; omega
  obtain ⟨hr2, hf2⟩ := RW_of (M := (Mf.drop 1).take (hl h)) (hA 31) e2 (by rw [hl2]; show _ ≤ 256; omega) (hf.by.drop.take)
  have hA2 := hA.one hr2 hf2 (by simp)
  have hr2_26 := hf.fr hf2 (by simp <;> omega) (by simp <;> omega)
  have hr2_a := ha.fr hf2 (by simp <;> omega) (by simp <;> omega)
  have hF2 := (Fr.rf : Fr SP σ σ).tr' (hf2.mono (by simp [SP]))
  show V X _ w _ _ s2 []
  refine v_aload_n hX 1 rfl (atL dAX3_showFrom_0 9 rfl) ?_
  refine gf_X3_14 hX hk10 (atL dAX3_showFrom_0 10 rfl) ?_
  refine v_aload_n hX 2 rfl (atL dAX3_showFrom_0 11 rfl) ?_
  refine v_iconst hX (atL dAX3_showFrom_0 12 rfl) ?_
  refine v_iload hX 0 rfl (atL dAX3_showFrom_0 13 rfl) ?_
  refine v_iadd hX (iI_add _ _) (atL dAX3_showFrom_0 14 rfl) ?_
  rw [show (1 + ((hl h : Int))) = ((1 + hl h : Nat) : Int) from (by omega)]
  refine v_aload_n hX 2 rfl (atL dAX3_showFrom_0 15 rfl) ?_
  refine gf_X3_42 hX (v := ((lMf : Nat) : Int)) ((hr2_26.len.trans (by rw [hlMf]))) v26 (atL dAX3_showFrom_0 16 rfl) ?_
  refine v_iload hX 0 rfl (atL dAX3_showFrom_0 17 rfl) ?_
  refine v_isub hX (iI_sub _ _) (atL dAX3_showFrom_0 18 rfl) ?_
  refine v_iconst hX (atL dAX3_showFrom_0 19 rfl) ?_
  refine v_isub hX (iI_sub _ _) (atL dAX3_showFrom_0 20 rfl) ?_
  rw [show (((((lMf : Nat) : Int)) - ((hl h : Int))) - 1) = ((lMf - hl h - 1 : Nat) : Int) from (by omega)]
  refine v_callV hX (As := [.ref (w.1 1 26), .int (iI (((1 + hl h : Nat) : Int))), .int (iI (((lMf - hl h - 1 : Nat) : Int)))]) (rest := []) (c_X4_takePart (xl X) w s2 29 (hP 1 29 (by simp [mn, tp])) (hA2 29) 26 v26 (hA2 26) (by omega) (1 + hl h) (lMf - hl h - 1) (by rw [hr2_26.2, hlMf]; omega) (by show _ ≤ 256; omega)) lk_X3_68 (hP 1 29 (by simp [mn, tp])) (fun _ => rfl) rfl rfl rfl (by rw [hR]; exact ⟨Nat.le_of_ble_eq_true rfl, Nat.le_of_ble_eq_true rfl⟩) ⟨Nat.zero_le _, Nat.zero_le _⟩ rfl (Nat.le_of_ble_eq_true rfl) (atL dAX3_showFrom_0 21 rfl) (fun _ s3 e3 => ?_)
  rw [hr2_26.2] at e3
  have hl3 : ((Mf.drop (1 + hl h)).take (lMf - hl h - 1)).length = (lMf - hl h - 1) := by rw [List.length_take, List.length_drop, hlMf]; omega
  obtain ⟨hr3, hf3⟩ := RW_of (M := (Mf.drop (1 + hl h)).take (lMf - hl h - 1)) (hA2 29) e3 (by rw [hl3]; show _ ≤ 256; omega) (hr2_26.by.drop.take)
  have hA3 := hA2.one hr3 hf3 (by simp)
  have hr3_26 := hr2_26.fr hf3 (by simp <;> omega) (by simp <;> omega)
  have hr3_a := hr2_a.fr hf3 (by simp <;> omega) (by simp <;> omega)
  have hr3_31 := hr2.fr hf3 (by simp <;> omega) (by simp <;> omega)
  have hF3 := hF2.tr' (hf3.mono (by simp [SP]))
  show V X _ w _ _ s3 []
  refine v_aload_n hX 1 rfl (atL dAX3_showFrom_0 22 rfl) ?_
  refine gf_X3_32 hX hk10 (atL dAX3_showFrom_0 23 rfl) ?_
  refine v_iload_n hX 3 rfl (atL dAX3_showFrom_0 24 rfl) ?_
  refine v_aload_n hX 1 rfl (atL dAX3_showFrom_0 25 rfl) ?_
  refine gf_X3_14 hX hk10 (atL dAX3_showFrom_0 26 rfl) ?_
  refine v_iload hX 0 rfl (atL dAX3_showFrom_0 27 rfl) ?_
  refine v_aload_n hX 1 rfl (atL dAX3_showFrom_0 28 rfl) ?_
  refine gf_X3_20 hX hk10 (atL dAX3_showFrom_0 29 rfl) ?_
  refine v_callV hX (As := [.int (iI (h)), .ref (w.1 1 29), .int (iI ((hl h : Int))), .ref (w.1 1 30)]) (rest := []) (c_X1_setMask (xl X) w s3 (hP 8 0 (by simp [mn, tp])) hA3 h hh 29 (hP 1 29 (by simp [mn, tp])) (by rw [hr3.2, hl3]; omega) (hl h) 30 (hP 1 30 (by simp [mn, tp])) (by show _ ≤ 256; omega) (by omega) (by omega) (by omega) (by omega) (by omega)) lk_X3_61 (hP 8 0 (by simp [mn, tp])) (fun _ => rfl) rfl rfl rfl (by rw [hR]; exact ⟨Nat.le_of_ble_eq_true rfl, Nat.le_of_ble_eq_true rfl⟩) ⟨Nat.zero_le _, Nat.zero_le _⟩ rfl (Nat.le_of_ble_eq_true rfl) (atL dAX3_showFrom_0 30 rfl) (fun _ s4 e4 => ?_)
  obtain ⟨hr4, hB4, hf4⟩ := e4
  rw [hr3.2] at hr4
  have hl4 : (msk h ((Mf.drop (1 + hl h)).take (lMf - hl h - 1)) (hl h)).length = hl h := by exact msk_len
  have hA4 := hB4
  have hr4_26 := hr3_26.fr hf4 (by simp [SM] <;> omega) (by simp [SM] <;> omega)
  have hr4_a := hr3_a.fr hf4 (by simp [SM] <;> omega) (by simp [SM] <;> omega)
  have hr4_31 := hr3_31.fr hf4 (by simp [SM] <;> omega) (by simp [SM] <;> omega)
  have hr4_29 := hr3.fr hf4 (by simp [SM] <;> omega) (by simp [SM] <;> omega)
  have hF4 := hF3.tr' (hf4.mono (by simp [SP, SM]))
  show V X _ w _ _ s4 []
  refine v_aload_n hX 1 rfl (atL dAX3_showFrom_0 31 rfl) ?_
  refine gf_X3_23 hX hk10 (atL dAX3_showFrom_0 32 rfl) ?_
  refine v_aload_n hX 1 rfl (atL dAX3_showFrom_0 33 rfl) ?_
  refine gf_X3_20 hX hk10 (atL dAX3_showFrom_0 34 rfl) ?_
  refine v_callV hX (As := [.ref (w.1 1 30)]) (rest := []) (c_X4_mixWith (xl X) w s4 31 (hP 1 31 (by simp [mn, tp])) (hA4 31) 30 (hP 1 30 (by simp [mn, tp])) (hA4 30) (by omega)) lk_X3_65 (hP 1 31 (by simp [mn, tp])) (fun _ => rfl) rfl rfl rfl (by rw [hR]; exact ⟨Nat.le_of_ble_eq_true rfl, Nat.le_of_ble_eq_true rfl⟩) ⟨Nat.zero_le _, Nat.zero_le _⟩ rfl (Nat.le_of_ble_eq_true rfl) (atL dAX3_showFrom_0 35 rfl) (fun _ s5 e5 => ?_)
  rw [hr4_31.2, hr4.2] at e5
  have hl5 : (mix ((Mf.drop 1).take (hl h)) (msk h ((Mf.drop (1 + hl h)).take (lMf - hl h - 1)) (hl h))).length = (hl h) := by rw [mix_len, hl2]
  obtain ⟨hr5, hf5⟩ := RW_of (M := mix ((Mf.drop 1).take (hl h)) (msk h ((Mf.drop (1 + hl h)).take (lMf - hl h - 1)) (hl h))) (hA4 31) e5 (by rw [hl5]; show _ ≤ 256; omega) (mix_by hr4_31.by hr4.by)
  have hA5 := hA4.one hr5 hf5 (by simp)
  have hr5_26 := hr4_26.fr hf5 (by simp <;> omega) (by simp <;> omega)
  have hr5_a := hr4_a.fr hf5 (by simp <;> omega) (by simp <;> omega)
  have hr5_29 := hr4_29.fr hf5 (by simp <;> omega) (by simp <;> omega)
  have hr5_30 := hr4.fr hf5 (by simp <;> omega) (by simp <;> omega)
  have hF5 := hF4.tr' (hf5.mono (by simp [SP]))
  show V X _ w _ _ s5 []
  refine v_aload_n hX 1 rfl (atL dAX3_showFrom_0 36 rfl) ?_
  refine gf_X3_32 hX hk10 (atL dAX3_showFrom_0 37 rfl) ?_
  refine v_iload_n hX 3 rfl (atL dAX3_showFrom_0 38 rfl) ?_
  refine v_aload_n hX 1 rfl (atL dAX3_showFrom_0 39 rfl) ?_
  refine gf_X3_23 hX hk10 (atL dAX3_showFrom_0 40 rfl) ?_
  refine v_aload_n hX 1 rfl (atL dAX3_showFrom_0 41 rfl) ?_
  refine gf_X3_14 hX hk10 (atL dAX3_showFrom_0 42 rfl) ?_
  refine gf_X3_42 hX (v := (((lMf - hl h - 1) : Nat) : Int)) ((hr5_29.len.trans (by rw [hl3]))) (hP 1 29 (by simp [mn, tp])) (atL dAX3_showFrom_0 43 rfl) ?_
  refine v_aload_n hX 1 rfl (atL dAX3_showFrom_0 44 rfl) ?_
  refine gf_X3_20 hX hk10 (atL dAX3_showFrom_0 45 rfl) ?_
  refine v_callV hX (As := [.int (iI (h)), .ref (w.1 1 31), .int (iI ((((lMf - hl h - 1) : Nat) : Int))), .ref (w.1 1 30)]) (rest := []) (c_X1_setMask (xl X) w s5 (hP 8 0 (by simp [mn, tp])) hA5 h hh 31 (hP 1 31 (by simp [mn, tp])) (by rw [hr5.2, hl5]; omega) ((lMf - hl h - 1)) 30 (hP 1 30 (by simp [mn, tp])) (by show _ ≤ 256; omega) (by omega) (by omega) (by omega) (by omega) (by omega)) lk_X3_61 (hP 8 0 (by simp [mn, tp])) (fun _ => rfl) rfl rfl rfl (by rw [hR]; exact ⟨Nat.le_of_ble_eq_true rfl, Nat.le_of_ble_eq_true rfl⟩) ⟨Nat.zero_le _, Nat.zero_le _⟩ rfl (Nat.le_of_ble_eq_true rfl) (atL dAX3_showFrom_0 46 rfl) (fun _ s6 e6 => ?_)
  obtain ⟨hr6, hB6, hf6⟩ := e6
  rw [hr5.2] at hr6
  have hl6 : (msk h (mix ((Mf.drop 1).take (hl h)) (msk h ((Mf.drop (1 + hl h)).take (lMf - hl h - 1)) (hl h))) ((lMf - hl h - 1))).length = (lMf - hl h - 1) := by exact msk_len
  have hA6 := hB6
  have hr6_26 := hr5_26.fr hf6 (by simp [SM] <;> omega) (by simp [SM] <;> omega)
  have hr6_a := hr5_a.fr hf6 (by simp [SM] <;> omega) (by simp [SM] <;> omega)
  have hr6_31 := hr5.fr hf6 (by simp [SM] <;> omega) (by simp [SM] <;> omega)
  have hr6_29 := hr5_29.fr hf6 (by simp [SM] <;> omega) (by simp [SM] <;> omega)
  have hF6 := hF5.tr' (hf6.mono (by simp [SP, SM]))
  show V X _ w _ _ s6 []
  refine v_aload_n hX 1 rfl (atL dAX3_showFrom_0 47 rfl) ?_
  refine gf_X3_14 hX hk10 (atL dAX3_showFrom_0 48 rfl) ?_
  refine v_aload_n hX 1 rfl (atL dAX3_showFrom_0 49 rfl) ?_
  refine gf_X3_20 hX hk10 (atL dAX3_showFrom_0 50 rfl) ?_
  refine v_callV hX (As := [.ref (w.1 1 30)]) (rest := []) (c_X4_mixWith (xl X) w s6 29 (hP 1 29 (by simp [mn, tp])) (hA6 29) 30 (hP 1 30 (by simp [mn, tp])) (hA6 30) (by omega)) lk_X3_65 (hP 1 29 (by simp [mn, tp])) (fun _ => rfl) rfl rfl rfl (by rw [hR]; exact ⟨Nat.le_of_ble_eq_true rfl, Nat.le_of_ble_eq_true rfl⟩) ⟨Nat.zero_le _, Nat.zero_le _⟩ rfl (Nat.le_of_ble_eq_true rfl) (atL dAX3_showFrom_0 51 rfl) (fun _ s7 e7 => ?_)
  rw [hr6_29.2, hr6.2] at e7
  have hl7 : (mix ((Mf.drop (1 + hl h)).take (lMf - hl h - 1)) (msk h (mix ((Mf.drop 1).take (hl h)) (msk h ((Mf.drop (1 + hl h)).take (lMf - hl h - 1)) (hl h))) ((lMf - hl h - 1)))).length = (lMf - hl h - 1) := by rw [mix_len, hl3]
  obtain ⟨hr7, hf7⟩ := RW_of (M := mix ((Mf.drop (1 + hl h)).take (lMf - hl h - 1)) (msk h (mix ((Mf.drop 1).take (hl h)) (msk h ((Mf.drop (1 + hl h)).take (lMf - hl h - 1)) (hl h))) ((lMf - hl h - 1)))) (hA6 29) e7 (by rw [hl7]; show _ ≤ 256; omega) (mix_by hr6_29.by hr6.by)
  have hA7 := hA6.one hr7 hf7 (by simp)
  have hr7_26 := hr6_26.fr hf7 (by simp <;> omega) (by simp <;> omega)
  have hr7_a := hr6_a.fr hf7 (by simp <;> omega) (by simp <;> omega)
  have hr7_31 := hr6_31.fr hf7 (by simp <;> omega) (by simp <;> omega)
  have hr7_30 := hr6.fr hf7 (by simp <;> omega) (by simp <;> omega)
  have hF7 := hF6.tr' (hf7.mono (by simp [SP]))
  show V X _ w _ _ s7 []
  have hD : mix ((Mf.drop (1 + hl h)).take (lMf - hl h - 1)) (msk h (mix ((Mf.drop 1).take (hl h)) (msk h ((Mf.drop (1 + hl h)).take (lMf - hl h - 1)) (hl h))) ((lMf - hl h - 1))) = showD h Mf := by subst hlMf; rfl
  rw [hD] at hr7 hl7
  refine v_aload_n hX 1 rfl (atL dAX3_showFrom_0 52 rfl) ?_
  refine gf_X3_26 hX hk10 (atL dAX3_showFrom_0 53 rfl) ?_
  refine v_iconst hX (atL dAX3_showFrom_0 54 rfl) ?_
  refine pf_X3_42 hX (hP 1 32 (by simp [mn, tp])) (atL dAX3_showFrom_0 55 rfl) ?_
  rw [sr_nil]
  obtain ⟨hr8, hf8⟩ := RW_of (s := sr s7 32 []) (hA7 32) rfl (by simp) BY.nil
  generalize sr s7 32 [] = s8 at hr8 hf8 ⊢
  have hl8 : ([] : List Nat).length = 0 := rfl
  have hA8 := hA7.one hr8 hf8 (by simp)
  have hr8_26 := hr7_26.fr hf8 (by simp <;> omega) (by simp <;> omega)
  have hr8_a := hr7_a.fr hf8 (by simp <;> omega) (by simp <;> omega)
  have hr8_31 := hr7_31.fr hf8 (by simp <;> omega) (by simp <;> omega)
  have hr8_29 := hr7.fr hf8 (by simp <;> omega) (by simp <;> omega)
  have hr8_30 := hr7_30.fr hf8 (by simp <;> omega) (by simp <;> omega)
  have hF8 := hF7.tr' (hf8.mono (by simp [SP]))
  refine v_aload_n hX 1 rfl (atL dAX3_showFrom_0 56 rfl) ?_
  refine gf_X3_32 hX hk10 (atL dAX3_showFrom_0 57 rfl) ?_
  refine v_iload_n hX 3 rfl (atL dAX3_showFrom_0 58 rfl) ?_
  refine v_aload_n hX 4 rfl (atL dAX3_showFrom_0 59 rfl) ?_
  refine v_aload_n hX 1 rfl (atL dAX3_showFrom_1 0 rfl) ?_
  refine gf_X3_26 hX hk10 (atL dAX3_showFrom_1 1 rfl) ?_
  refine v_callV hX (As := [.int (iI (h)), .ref (w.1 1 a), .ref (w.1 1 32)]) (rest := []) (c_X1_addDigest (xl X) w s8 (hP 8 0 (by simp [mn, tp])) h hh a hav (hA8 a) 32 (hP 1 32 (by simp [mn, tp])) (hA8 32) (by rw [hr8.2, hl8]; show _ ≤ 32; omega)) lk_X3_46 (hP 8 0 (by simp [mn, tp])) (fun _ => rfl) rfl rfl rfl (by rw [hR]; exact ⟨Nat.le_of_ble_eq_true rfl, Nat.le_of_ble_eq_true rfl⟩) ⟨Nat.zero_le _, Nat.zero_le _⟩ rfl (Nat.le_of_ble_eq_true rfl) (atL dAX3_showFrom_1 2 rfl) (fun _ s9 e9 => ?_)
  obtain ⟨hr9, hf9⟩ := e9
  rw [hr8.2, hr8_a.2] at hr9
  rw [List.nil_append] at hr9
  have hl9 : (sha h Ma).length = hl h := by exact sha_len
  have hA9 := hA8.one hr9 hf9 (by simp)
  have hr9_26 := hr8_26.fr hf9 (by simp <;> omega) (by simp <;> omega)
  have hr9_a := hr8_a.fr hf9 (by simp <;> omega) (by simp <;> omega)
  have hr9_31 := hr8_31.fr hf9 (by simp <;> omega) (by simp <;> omega)
  have hr9_29 := hr8_29.fr hf9 (by simp <;> omega) (by simp <;> omega)
  have hr9_30 := hr8_30.fr hf9 (by simp <;> omega) (by simp <;> omega)
  have hF9 := hF8.tr' (hf9.mono (by simp [SP]))
  show V X _ w _ _ s9 []
  refine v_iload hX 0 rfl (atL dAX3_showFrom_1 3 rfl) ?_
  refine v_aload_n hX 1 rfl (atL dAX3_showFrom_1 4 rfl) ?_
  refine gf_X3_14 hX hk10 (atL dAX3_showFrom_1 5 rfl) ?_
  refine v_iload hX 0 rfl (atL dAX3_showFrom_1 6 rfl) ?_
  refine v_callV hX (As := [.int (iI ((hl h : Int)))]) (rest := [.int (iI ((hl h : Int)))]) (c_X4_zerosFrom (xl X) w s9 29 (hP 1 29 (by simp [mn, tp])) (hA9 29) (hl h) (by rw [hr9_29.2, hl7]; omega)) lk_X3_72 (hP 1 29 (by simp [mn, tp])) (fun _ => rfl) rfl rfl rfl (by rw [hR]; exact ⟨Nat.le_of_ble_eq_true rfl, Nat.le_of_ble_eq_true rfl⟩) ⟨Nat.zero_le _, Nat.zero_le _⟩ rfl (Nat.le_of_ble_eq_true rfl) (atL dAX3_showFrom_1 7 rfl) (fun r10 z10 g10 => ?_)
  obtain ⟨ga10, gb10⟩ := g10
  rw [gb10]
  rw [hr9_29.2] at ga10
  subst ga10
  have hb10 := run_le (p := fun x => decide (x = 0)) (L := showD h Mf) (k := hl h)
  rw [hl7] at hb10
  show V X _ w _ _ s9 [.int (iI (((run (fun x => decide (x = 0)) (showD h Mf) (hl h) : Nat) : Int))), .int (iI ((hl h : Int)))]
  obtain ⟨nn, hnn⟩ : ∃ q, run (fun x => decide (x = 0)) (showD h Mf) (hl h) = q := ⟨_, rfl⟩
  have hbn : nn ≤ lMf - hl h - 1 - hl h := by rw [← hnn]; assumption
  rw [hnn]
  have hO : showO h Mf = hl h + nn := by unfold showO; rw [hnn]
  refine v_iadd hX (iI_add _ _) (atL dAX3_showFrom_1 8 rfl) ?_
  rw [show (((hl h : Int)) + ((nn : Int))) = ((hl h + nn : Nat) : Int) from (by omega)]
  refine v_istore hX (lv' := [(6, .int (iI (((hl h + nn : Nat) : Int)))), (5, .int (iI ((hl h : Int)))), (0, .ref (w.1 10 0)), (1, .ref (w.1 1 26)), (2, .int (iI (h))), (3, .ref (w.1 1 a)), (4, .ref (w.1 1 25))]) (Nat.le_of_ble_eq_true rfl) rfl (atL dAX3_showFrom_1 9 rfl) ?_
  refine v_aload_n hX 3 rfl (atL dAX3_showFrom_1 10 rfl) ?_
  refine v_iconst hX (atL dAX3_showFrom_1 11 rfl) ?_
  refine v_callV hX (As := [.int (iI (0))]) (rest := []) (c_X4_at (xl X) w s9 26 v26 (hA9 26) 0 ⟨by omega, by omega⟩) lk_X3_75 v26 (fun _ => rfl) rfl rfl rfl (by rw [hR]; exact ⟨Nat.le_of_ble_eq_true rfl, Nat.le_of_ble_eq_true rfl⟩) ⟨Nat.zero_le _, Nat.zero_le _⟩ rfl (Nat.le_of_ble_eq_true rfl) (atL dAX3_showFrom_1 12 rfl) (fun r11 z11 g11 => ?_)
  obtain ⟨ga11, gb11⟩ := g11
  rw [gb11]
  rw [hr9_26.2] at ga11
  rw [if_pos (by omega), show (0 : Int).toNat = 0 by omega] at ga11
  subst ga11
  have hb11 := hr9_26.by.get 0
  show V X _ w _ _ s9 [.int (iI ((((Mf).getD 0 0 : Nat) : Int)))]
  refine v_if_ne hX ⟨by omega, by omega⟩ (tgt := 172) (atL dAX3_showFrom_1 13 rfl) (by decide) (fun h141 => ?_) (fun h141 => ?_)
  · refine v_iconst hX (atL dAX3_showFrom_1 27 rfl) ?_
    exact v_zret hX (by decide +kernel) (atL dAX3_showFrom_1 28 rfl) (hret _ _ ⟨Or.inr ⟨rfl, fun q => absurd q.1 (by omega)⟩, hA9, hF9⟩)
  · refine v_aload_n hX 2 rfl (atL dAX3_showFrom_1 14 rfl) ?_
    refine gf_X3_14 hX hk10 (atL dAX3_showFrom_1 15 rfl) ?_
    refine v_aload_n hX 2 rfl (atL dAX3_showFrom_1 16 rfl) ?_
    refine gf_X3_26 hX hk10 (atL dAX3_showFrom_1 17 rfl) ?_
    refine v_iconst hX (atL dAX3_showFrom_1 18 rfl) ?_
    refine v_callV hX (As := [.ref (w.1 1 32), .int (iI (0))]) (rest := []) (c_X4_holds (xl X) w s9 29 (hP 1 29 (by simp [mn, tp])) (hA9 29) 32 (hP 1 32 (by simp [mn, tp])) (hA9 32) (by omega)) lk_X3_78 (hP 1 29 (by simp [mn, tp])) (fun _ => rfl) rfl rfl rfl (by rw [hR]; exact ⟨Nat.le_of_ble_eq_true rfl, Nat.le_of_ble_eq_true rfl⟩) ⟨Nat.zero_le _, Nat.zero_le _⟩ rfl (Nat.le_of_ble_eq_true rfl) (atL dAX3_showFrom_1 19 rfl) (fun r12 z12 g12 => ?_)
    obtain ⟨ga12, gb12⟩ := g12
    rw [gb12]
    rw [hr9_29.2] at ga12
    rw [hr9.2] at ga12
    have gc12 : tf r12 ((showD h Mf).take (sha h Ma).length = sha h Ma) := by rw [ga12]; split; exact tf_p (by assumption); exact tf_n (by assumption)
    have gd12 : r12 = 0 ∨ r12 = 1 := by rw [ga12]; split <;> simp
    show V X _ w _ _ s9 [.int (iI (r12))]
    refine v_if_eq hX ⟨by omega, by omega⟩ (tgt := 172) (atL dAX3_showFrom_1 20 rfl) (by decide) (fun h156 => ?_) (fun h156 => ?_)
    · refine v_iconst hX (atL dAX3_showFrom_1 27 rfl) ?_
      exact v_zret hX (by decide +kernel) (atL dAX3_showFrom_1 28 rfl) (hret _ _ ⟨Or.inr ⟨rfl, fun q => gc12.f h156 (by rw [sha_len]; exact q.2.1)⟩, hA9, hF9⟩)
    · refine v_aload_n hX 2 rfl (atL dAX3_showFrom_1 21 rfl) ?_
      refine gf_X3_14 hX hk10 (atL dAX3_showFrom_1 22 rfl) ?_
      refine v_iload hX 0 rfl (atL dAX3_showFrom_1 23 rfl) ?_
      refine v_callV hX (As := [.int (iI (((hl h + nn : Nat) : Int)))]) (rest := []) (c_X4_at (xl X) w s9 29 (hP 1 29 (by simp [mn, tp])) (hA9 29) (((hl h + nn : Nat) : Int)) ⟨by omega, by omega⟩) lk_X3_75 (hP 1 29 (by simp [mn, tp])) (fun _ => rfl) rfl rfl rfl (by rw [hR]; exact ⟨Nat.le_of_ble_eq_true rfl, Nat.le_of_ble_eq_true rfl⟩) ⟨Nat.zero_le _, Nat.zero_le _⟩ rfl (Nat.le_of_ble_eq_true rfl) (atL dAX3_showFrom_1 24 rfl) (fun r13 z13 g13 => ?_)
      obtain ⟨ga13, gb13⟩ := g13
      rw [gb13]
      rw [hr9_29.2] at ga13
      rw [if_pos (by omega), show (((hl h + nn : Nat) : Int) : Int).toNat = hl h + nn by omega] at ga13
      subst ga13
      have hb13 := hr9_29.by.get (hl h + nn)
      show V X _ w _ _ s9 [.int (iI ((((showD h Mf).getD (hl h + nn) 0 : Nat) : Int)))]
      refine v_iconst hX (atL dAX3_showFrom_1 25 rfl) ?_
      refine v_icmp_eq hX ⟨by omega, by omega⟩ ⟨by omega, by omega⟩ (tgt := 174) (atL dAX3_showFrom_1 26 rfl) (by decide) (fun h169 => ?_) (fun h169 => ?_)
      · have hok : showOK h Mf Ma := ⟨by omega, by have q := gc12.t h156; rw [sha_len] at q; exact q, by rw [hO]; omega⟩
        have hin : hl h + nn < lMf - hl h - 1 := Nat.lt_of_not_le (fun c => by have := gD_out (L := showD h Mf) (j := hl h + nn) (by rw [hl7]; exact c); omega)
        refine v_aload hX 6 rfl (atL dAX3_showFrom_1 29 rfl) ?_
        refine v_aload_n hX 2 rfl (atL dAX3_showFrom_1 30 rfl) ?_
        refine gf_X3_14 hX hk10 (atL dAX3_showFrom_1 31 rfl) ?_
        refine v_iload hX 0 rfl (atL dAX3_showFrom_1 32 rfl) ?_
        refine v_iconst hX (atL dAX3_showFrom_1 33 rfl) ?_
        refine v_iadd hX (iI_add _ _) (atL dAX3_showFrom_1 34 rfl) ?_
        rw [show ((((hl h + nn : Nat) : Int)) + 1) = ((hl h + nn + 1 : Nat) : Int) from (by omega)]
        refine v_aload_n hX 2 rfl (atL dAX3_showFrom_1 35 rfl) ?_
        refine gf_X3_14 hX hk10 (atL dAX3_showFrom_1 36 rfl) ?_
        refine gf_X3_42 hX (v := (((lMf - hl h - 1) : Nat) : Int)) ((hr9_29.len.trans (by rw [hl7]))) (hP 1 29 (by simp [mn, tp])) (atL dAX3_showFrom_1 37 rfl) ?_
        refine v_iload hX 0 rfl (atL dAX3_showFrom_1 38 rfl) ?_
        refine v_isub hX (iI_sub _ _) (atL dAX3_showFrom_1 39 rfl) ?_
        refine v_iconst hX (atL dAX3_showFrom_1 40 rfl) ?_
        refine v_isub hX (iI_sub _ _) (atL dAX3_showFrom_1 41 rfl) ?_
        rw [show ((((((lMf - hl h - 1) : Nat) : Int)) - (((hl h + nn : Nat) : Int))) - 1) = ((lMf - hl h - 1 - (hl h + nn) - 1 : Nat) : Int) from (by omega)]
        refine v_callV hX (As := [.ref (w.1 1 29), .int (iI (((hl h + nn + 1 : Nat) : Int))), .int (iI (((lMf - hl h - 1 - (hl h + nn) - 1 : Nat) : Int)))]) (rest := []) (c_X4_takePart (xl X) w s9 25 v25 (hA9 25) 29 (hP 1 29 (by simp [mn, tp])) (hA9 29) (by omega) (hl h + nn + 1) (lMf - hl h - 1 - (hl h + nn) - 1) (by rw [hr9_29.2, hl7]; omega) (by show _ ≤ 256; omega)) lk_X3_68 v25 (fun _ => rfl) rfl rfl rfl (by rw [hR]; exact ⟨Nat.le_of_ble_eq_true rfl, Nat.le_of_ble_eq_true rfl⟩) ⟨Nat.zero_le _, Nat.zero_le _⟩ rfl (Nat.le_of_ble_eq_true rfl) (atL dAX3_showFrom_1 42 rfl) (fun _ s14 e14 => ?_)
        rw [hr9_29.2] at e14
        have hl14 : (((showD h Mf).drop (hl h + nn + 1)).take (lMf - hl h - 1 - (hl h + nn) - 1)).length = (lMf - hl h - 1 - (hl h + nn) - 1) := by rw [List.length_take, List.length_drop, hl7]; omega
        obtain ⟨hr14, hf14⟩ := RW_of (M := ((showD h Mf).drop (hl h + nn + 1)).take (lMf - hl h - 1 - (hl h + nn) - 1)) (hA9 25) e14 (by rw [hl14]; show _ ≤ 256; omega) (hr9_29.by.drop.take)
        have hA14 := hA9.one hr14 hf14 (by simp)
        have hr14_26 := hr9_26.fr hf14 (by simp <;> omega) (by simp <;> omega)
        have hr14_a := hr9_a.fr hf14 (by simp <;> omega) (by simp <;> omega)
        have hr14_31 := hr9_31.fr hf14 (by simp <;> omega) (by simp <;> omega)
        have hr14_29 := hr9_29.fr hf14 (by simp <;> omega) (by simp <;> omega)
        have hr14_30 := hr9_30.fr hf14 (by simp <;> omega) (by simp <;> omega)
        have hr14_32 := hr9.fr hf14 (by simp <;> omega) (by simp <;> omega)
        have hF14 := hF9.tr' (hf14.mono (by simp [SP]))
        show V X _ w _ _ s14 []
        have hLL : ((showD h Mf).drop (hl h + nn + 1)).take (lMf - hl h - 1 - (hl h + nn) - 1) = showL h Mf := by unfold showL; rw [hO, hlMf]
        rw [hLL] at hr14
        refine v_iconst hX (atL dAX3_showFrom_1 43 rfl) ?_
        exact v_zret hX (by decide +kernel) (atL dAX3_showFrom_1 44 rfl) (hret _ _ ⟨Or.inl ⟨rfl, hok, hr14⟩, hA14, hF14⟩)
      · refine v_iconst hX (atL dAX3_showFrom_1 27 rfl) ?_
        exact v_zret hX (by decide +kernel) (atL dAX3_showFrom_1 28 rfl) (hret _ _ ⟨Or.inr ⟨rfl, fun q => absurd q.2.2 (by rw [hO]; omega)⟩, hA9, hF9⟩)

set_option maxHeartbeats 1000000 in
set_option maxRecDepth 100000 in
theorem c_X3_saltIn (l : Launch) (w : Wl) (σ : St) (hk10 : w.2 10 0) (v25 : w.2 1 25) (hA : AR σ) (r : Nat) (hr8 : rB r ≤ 256) (h : Int) (hh : rI h) (a : Nat) (hav : w.2 1 a) (ha2 : a < 24) (Ma : List Nat) (ha : RW σ a Ma) (b : Nat) (hbv : w.2 1 b) (hb2 : b < 24) (Mb : List Nat) (hb : RW σ b Mb) (hfit : hl h + Mb.length + 2 ≤ rB r) : Cn l yX3_saltIn cX3_saltIn 7 none 5 122 wN [.ref (w.1 10 0), .ref (w.1 1 25), .int (iI ((r : Int))), .int (iI (h)), .ref (w.1 1 a), .ref (w.1 1 b)] w σ (fun _ σ' => RW σ' 25 (saltL h r Ma Mb) ∧ AR σ' ∧ Fr SP σ σ') := by
  refine Cn.of (own := RX3) (lv := [(0, .ref (w.1 10 0)), (1, .ref (w.1 1 25)), (2, .int (iI ((r : Int)))), (3, .int (iI (h))), (4, .ref (w.1 1 a)), (5, .ref (w.1 1 b))]) (by decide +kernel) rfl (Nat.le_of_ble_eq_true rfl) rfl (fun X hX hxl hR hcl hret => ?_)
  subst hxl
  have hP : ∀ c q, (c, q) ∈ mn σ 10 0 → w.2 c q := fun c q h => hcl 10 0 hk10 (c, q) h
  have hll := hl_le h
  have hlg := hl_ge h
  obtain ⟨lMa, hlMa⟩ : ∃ q, Ma.length = q := ⟨_, rfl⟩
  have hqMa := ha.le
  rw [hlMa] at hqMa
  obtain ⟨lMb, hlMb⟩ : ∃ q, Mb.length = q := ⟨_, rfl⟩
  have hqMb := hb.le
  rw [hlMb] at hqMb
  have hrr : r < 100000 := by unfold rB at hr8; omega
  rw [hlMb] at hfit
  refine v_iload_n hX 2 rfl (atL dAX3_saltIn_0 0 rfl) ?_
  refine v_callS hX (As := [.int (iI ((r : Int)))]) (rest := []) (c_X3_bytesOf (xl X) w σ r (by omega)) lk_X3_96 rfl (by rw [hR]; exact ⟨Nat.le_of_ble_eq_true rfl, Nat.le_of_ble_eq_true rfl⟩) ⟨Nat.zero_le _, Nat.zero_le _⟩ rfl (Nat.le_of_ble_eq_true rfl) (atL dAX3_saltIn_0 1 rfl) (fun rb901 z901 gg901 => ?_)
  obtain ⟨ga901, gb901⟩ := gg901
  rw [gb901]
  subst ga901
  show V X _ w _ _ σ [.int (iI (((rB r : Nat) : Int)))]
  refine v_iload_n hX 3 rfl (atL dAX3_saltIn_0 2 rfl) ?_
  refine v_callS hX (As := [.int (iI (h))]) (rest := [.int (iI (((rB r : Nat) : Int)))]) (c_X1_lengthOf (xl X) w σ h hh) lk_X3_36 rfl (by rw [hR]; exact ⟨Nat.le_of_ble_eq_true rfl, Nat.le_of_ble_eq_true rfl⟩) ⟨Nat.zero_le _, Nat.zero_le _⟩ rfl (Nat.le_of_ble_eq_true rfl) (atL dAX3_saltIn_0 3 rfl) (fun r1 z1 g1 => ?_)
  obtain ⟨ga1, gb1⟩ := g1
  rw [gb1]
  subst ga1
  show V X _ w _ _ σ [.int (iI ((hl h : Int))), .int (iI (((rB r : Nat) : Int)))]
  refine v_isub hX (iI_sub _ _) (atL dAX3_saltIn_0 4 rfl) ?_
  refine v_iconst hX (atL dAX3_saltIn_0 5 rfl) ?_
  refine v_isub hX (iI_sub _ _) (atL dAX3_saltIn_0 6 rfl) ?_
  rw [show (((((rB r : Nat) : Int)) - ((hl h : Int))) - 1) = ((rB r - hl h - 1 : Nat) : Int) from (by omega)]
  refine v_istore hX (lv' := [(6, .int (iI (((rB r - hl h - 1 : Nat) : Int)))), (0, .ref (w.1 10 0)), (1, .ref (w.1 1 25)), (2, .int (iI ((r : Int)))), (3, .int (iI (h))), (4, .ref (w.1 1 a)), (5, .ref (w.1 1 b))]) (Nat.le_of_ble_eq_true rfl) rfl (atL dAX3_saltIn_0 7 rfl) ?_
  refine v_aload_n hX 1 rfl (atL dAX3_saltIn_0 8 rfl) ?_
  refine v_iload_n hX 4 rfl (atL dAX3_saltIn_0 9 rfl) ?_
  refine v_aload hX 5 rfl (atL dAX3_saltIn_0 10 rfl) ?_
  refine v_aload hX 6 rfl (atL dAX3_saltIn_0 11 rfl) ?_
  refine v_callV hX (As := [.int (iI (h)), .ref (w.1 1 a), .ref (w.1 1 b)]) (rest := []) (c_X3_setProof (xl X) w σ hk10 hA h hh a hav Ma ha b hbv Mb hb (by omega) (by rw [hlMb]; omega) (by omega) (by omega)) lk_X3_99 hk10 (fun _ => rfl) rfl rfl rfl (by rw [hR]; exact ⟨Nat.le_of_ble_eq_true rfl, Nat.le_of_ble_eq_true rfl⟩) ⟨Nat.zero_le _, Nat.zero_le _⟩ rfl (Nat.le_of_ble_eq_true rfl) (atL dAX3_saltIn_0 12 rfl) (fun _ s2 e2 => ?_)
  obtain ⟨hr2, hB2, hf2⟩ := e2
  have hl2 : (prf h Ma Mb).length = hl h := by exact sha_len
  have hA2 := hB2
  have hr2_a := ha.fr hf2 (by simp [SPP] <;> omega) (by simp [SPP] <;> omega)
  have hr2_b := hb.fr hf2 (by simp [SPP] <;> omega) (by simp [SPP] <;> omega)
  have hF2 := (Fr.rf : Fr SP σ σ).tr' (hf2.mono (by simp [SP, SPP]))
  show V X _ w _ _ s2 []
  refine v_aload_n hX 1 rfl (atL dAX3_saltIn_0 13 rfl) ?_
  refine gf_X3_14 hX hk10 (atL dAX3_saltIn_0 14 rfl) ?_
  refine v_iconst hX (atL dAX3_saltIn_0 15 rfl) ?_
  refine pf_X3_42 hX (hP 1 29 (by simp [mn, tp])) (atL dAX3_saltIn_0 16 rfl) ?_
  rw [sr_nil]
  obtain ⟨hr3, hf3⟩ := RW_of (s := sr s2 29 []) (hA2 29) rfl (by simp) BY.nil
  generalize sr s2 29 [] = s3 at hr3 hf3 ⊢
  have hl3 : ([] : List Nat).length = 0 := rfl
  have hA3 := hA2.one hr3 hf3 (by simp)
  have hr3_a := hr2_a.fr hf3 (by simp <;> omega) (by simp <;> omega)
  have hr3_b := hr2_b.fr hf3 (by simp <;> omega) (by simp <;> omega)
  have hr3_32 := hr2.fr hf3 (by simp <;> omega) (by simp <;> omega)
  have hF3 := hF2.tr' (hf3.mono (by simp [SP]))
  refine v_aload_n hX 1 rfl (atL dAX3_saltIn_0 17 rfl) ?_
  refine gf_X3_14 hX hk10 (atL dAX3_saltIn_0 18 rfl) ?_
  refine v_iconst hX (atL dAX3_saltIn_0 19 rfl) ?_
  refine v_iload hX 0 rfl (atL dAX3_saltIn_0 20 rfl) ?_
  refine v_iconst hX (atL dAX3_saltIn_0 21 rfl) ?_
  refine v_isub hX (iI_sub _ _) (atL dAX3_saltIn_0 22 rfl) ?_
  refine v_aload hX 6 rfl (atL dAX3_saltIn_0 23 rfl) ?_
  refine gf_X3_42 hX (v := ((lMb : Nat) : Int)) ((hr3_b.len.trans (by rw [hlMb]))) hbv (atL dAX3_saltIn_0 24 rfl) ?_
  refine v_isub hX (iI_sub _ _) (atL dAX3_saltIn_0 25 rfl) ?_
  rw [show (((((rB r - hl h - 1 : Nat) : Int)) - 1) - (((lMb : Nat) : Int))) = ((rB r - hl h - 1 - 1 - lMb : Nat) : Int) from (by omega)]
  refine v_callV hX (As := [.int (iI (0)), .int (iI (((rB r - hl h - 1 - 1 - lMb : Nat) : Int)))]) (rest := []) (c_X4_addTimes (xl X) w s3 29 (hP 1 29 (by simp [mn, tp])) (hA3 29) 0 (rB r - hl h - 1 - 1 - lMb) (by rw [hr3.2, hl3]; show _ ≤ 256; omega)) lk_X3_50 (hP 1 29 (by simp [mn, tp])) (fun _ => rfl) rfl rfl rfl (by rw [hR]; exact ⟨Nat.le_of_ble_eq_true rfl, Nat.le_of_ble_eq_true rfl⟩) ⟨Nat.zero_le _, Nat.zero_le _⟩ rfl (Nat.le_of_ble_eq_true rfl) (atL dAX3_saltIn_0 26 rfl) (fun _ s4 e4 => ?_)
  rw [hr3.2, show ((0 : Int) % 256).toNat = 0 from rfl] at e4
  rw [List.nil_append] at e4
  have hl4 : (List.replicate (rB r - hl h - 1 - 1 - lMb) 0).length = (rB r - hl h - 1 - 1 - lMb) := by rw [List.length_replicate]
  obtain ⟨hr4, hf4⟩ := RW_of (M := List.replicate (rB r - hl h - 1 - 1 - lMb) 0) (hA3 29) e4 (by rw [hl4]; show _ ≤ 256; omega) ((BY.rep (by omega)))
  have hA4 := hA3.one hr4 hf4 (by simp)
  have hr4_a := hr3_a.fr hf4 (by simp <;> omega) (by simp <;> omega)
  have hr4_b := hr3_b.fr hf4 (by simp <;> omega) (by simp <;> omega)
  have hr4_32 := hr3_32.fr hf4 (by simp <;> omega) (by simp <;> omega)
  have hF4 := hF3.tr' (hf4.mono (by simp [SP]))
  show V X _ w _ _ s4 []
  refine v_aload_n hX 1 rfl (atL dAX3_saltIn_0 27 rfl) ?_
  refine gf_X3_14 hX hk10 (atL dAX3_saltIn_0 28 rfl) ?_
  refine v_iconst hX (atL dAX3_saltIn_0 29 rfl) ?_
  refine v_callV hX (As := [.int (iI (1))]) (rest := []) (c_X4_add (xl X) w s4 29 (hP 1 29 (by simp [mn, tp])) (hA4 29) 1 (by rw [hr4.2, hl4]; show _ < 256; omega)) lk_X3_54 (hP 1 29 (by simp [mn, tp])) (fun _ => rfl) rfl rfl rfl (by rw [hR]; exact ⟨Nat.le_of_ble_eq_true rfl, Nat.le_of_ble_eq_true rfl⟩) ⟨Nat.zero_le _, Nat.zero_le _⟩ rfl (Nat.le_of_ble_eq_true rfl) (atL dAX3_saltIn_0 30 rfl) (fun _ s5 e5 => ?_)
  rw [hr4.2, show ((1 : Int) % 256).toNat = 1 from rfl] at e5
  have hl5 : (List.replicate (rB r - hl h - 1 - 1 - lMb) 0 ++ [1]).length = (rB r - hl h - 1 - 1 - lMb) + 1 := by rw [List.length_append, hl4]; rfl
  obtain ⟨hr5, hf5⟩ := RW_of (M := List.replicate (rB r - hl h - 1 - 1 - lMb) 0 ++ [1]) (hA4 29) e5 (by rw [hl5]; show _ ≤ 256; omega) (hr4.by.app (BY.one (by omega)))
  have hA5 := hA4.one hr5 hf5 (by simp)
  have hr5_a := hr4_a.fr hf5 (by simp <;> omega) (by simp <;> omega)
  have hr5_b := hr4_b.fr hf5 (by simp <;> omega) (by simp <;> omega)
  have hr5_32 := hr4_32.fr hf5 (by simp <;> omega) (by simp <;> omega)
  have hF5 := hF4.tr' (hf5.mono (by simp [SP]))
  show V X _ w _ _ s5 []
  refine v_aload_n hX 1 rfl (atL dAX3_saltIn_0 31 rfl) ?_
  refine gf_X3_14 hX hk10 (atL dAX3_saltIn_0 32 rfl) ?_
  refine v_aload hX 6 rfl (atL dAX3_saltIn_0 33 rfl) ?_
  refine v_callV hX (As := [.ref (w.1 1 b)]) (rest := []) (c_X4_addRow (xl X) w s5 29 (hP 1 29 (by simp [mn, tp])) (hA5 29) b hbv (hA5 b) (by omega) (by rw [hr5.2, hr5_b.2, hl5, hlMb]; show _ ≤ 256; omega)) lk_X3_57 (hP 1 29 (by simp [mn, tp])) (fun _ => rfl) rfl rfl rfl (by rw [hR]; exact ⟨Nat.le_of_ble_eq_true rfl, Nat.le_of_ble_eq_true rfl⟩) ⟨Nat.zero_le _, Nat.zero_le _⟩ rfl (Nat.le_of_ble_eq_true rfl) (atL dAX3_saltIn_0 34 rfl) (fun _ s6 e6 => ?_)
  rw [hr5.2, hr5_b.2] at e6
  have hl6 : (List.replicate (rB r - hl h - 1 - 1 - lMb) 0 ++ [1] ++ Mb).length = (rB r - hl h - 1 - 1 - lMb) + 1 + lMb := by rw [List.length_append, hl5, hlMb]
  obtain ⟨hr6, hf6⟩ := RW_of (M := List.replicate (rB r - hl h - 1 - 1 - lMb) 0 ++ [1] ++ Mb) (hA5 29) e6 (by rw [hl6]; show _ ≤ 256; omega) (hr5.by.app hr5_b.by)
  have hA6 := hA5.one hr6 hf6 (by simp)
  have hr6_a := hr5_a.fr hf6 (by simp <;> omega) (by simp <;> omega)
  have hr6_b := hr5_b.fr hf6 (by simp <;> omega) (by simp <;> omega)
  have hr6_32 := hr5_32.fr hf6 (by simp <;> omega) (by simp <;> omega)
  have hF6 := hF5.tr' (hf6.mono (by simp [SP]))
  show V X _ w _ _ s6 []
  refine v_aload_n hX 1 rfl (atL dAX3_saltIn_0 35 rfl) ?_
  refine gf_X3_32 hX hk10 (atL dAX3_saltIn_0 36 rfl) ?_
  refine v_iload_n hX 4 rfl (atL dAX3_saltIn_0 37 rfl) ?_
  refine v_aload_n hX 1 rfl (atL dAX3_saltIn_0 38 rfl) ?_
  refine gf_X3_26 hX hk10 (atL dAX3_saltIn_0 39 rfl) ?_
  refine v_iload hX 0 rfl (atL dAX3_saltIn_0 40 rfl) ?_
  refine v_aload_n hX 1 rfl (atL dAX3_saltIn_0 41 rfl) ?_
  refine gf_X3_20 hX hk10 (atL dAX3_saltIn_0 42 rfl) ?_
  refine v_callV hX (As := [.int (iI (h)), .ref (w.1 1 32), .int (iI (((rB r - hl h - 1 : Nat) : Int))), .ref (w.1 1 30)]) (rest := []) (c_X1_setMask (xl X) w s6 (hP 8 0 (by simp [mn, tp])) hA6 h hh 32 (hP 1 32 (by simp [mn, tp])) (by rw [hr6_32.2, hl2]; omega) (rB r - hl h - 1) 30 (hP 1 30 (by simp [mn, tp])) (by show _ ≤ 256; omega) (by omega) (by omega) (by omega) (by omega) (by omega)) lk_X3_61 (hP 8 0 (by simp [mn, tp])) (fun _ => rfl) rfl rfl rfl (by rw [hR]; exact ⟨Nat.le_of_ble_eq_true rfl, Nat.le_of_ble_eq_true rfl⟩) ⟨Nat.zero_le _, Nat.zero_le _⟩ rfl (Nat.le_of_ble_eq_true rfl) (atL dAX3_saltIn_0 43 rfl) (fun _ s7 e7 => ?_)
  obtain ⟨hr7, hB7, hf7⟩ := e7
  rw [hr6_32.2] at hr7
  have hl7 : (msk h (prf h Ma Mb) (rB r - hl h - 1)).length = rB r - hl h - 1 := by exact msk_len
  have hA7 := hB7
  have hr7_a := hr6_a.fr hf7 (by simp [SM] <;> omega) (by simp [SM] <;> omega)
  have hr7_b := hr6_b.fr hf7 (by simp [SM] <;> omega) (by simp [SM] <;> omega)
  have hr7_32 := hr6_32.fr hf7 (by simp [SM] <;> omega) (by simp [SM] <;> omega)
  have hr7_29 := hr6.fr hf7 (by simp [SM] <;> omega) (by simp [SM] <;> omega)
  have hF7 := hF6.tr' (hf7.mono (by simp [SP, SM]))
  show V X _ w _ _ s7 []
  refine v_aload_n hX 1 rfl (atL dAX3_saltIn_0 44 rfl) ?_
  refine gf_X3_14 hX hk10 (atL dAX3_saltIn_0 45 rfl) ?_
  refine v_aload_n hX 1 rfl (atL dAX3_saltIn_0 46 rfl) ?_
  refine gf_X3_20 hX hk10 (atL dAX3_saltIn_0 47 rfl) ?_
  refine v_callV hX (As := [.ref (w.1 1 30)]) (rest := []) (c_X4_mixWith (xl X) w s7 29 (hP 1 29 (by simp [mn, tp])) (hA7 29) 30 (hP 1 30 (by simp [mn, tp])) (hA7 30) (by omega)) lk_X3_65 (hP 1 29 (by simp [mn, tp])) (fun _ => rfl) rfl rfl rfl (by rw [hR]; exact ⟨Nat.le_of_ble_eq_true rfl, Nat.le_of_ble_eq_true rfl⟩) ⟨Nat.zero_le _, Nat.zero_le _⟩ rfl (Nat.le_of_ble_eq_true rfl) (atL dAX3_saltIn_0 48 rfl) (fun _ s8 e8 => ?_)
  rw [hr7_29.2, hr7.2] at e8
  have hl8 : (mix (List.replicate (rB r - hl h - 1 - 1 - lMb) 0 ++ [1] ++ Mb) (msk h (prf h Ma Mb) (rB r - hl h - 1))).length = (rB r - hl h - 1 - 1 - lMb) + 1 + lMb := by rw [mix_len, hl6]
  obtain ⟨hr8, hf8⟩ := RW_of (M := mix (List.replicate (rB r - hl h - 1 - 1 - lMb) 0 ++ [1] ++ Mb) (msk h (prf h Ma Mb) (rB r - hl h - 1))) (hA7 29) e8 (by rw [hl8]; show _ ≤ 256; omega) (mix_by hr7_29.by hr7.by)
  have hA8 := hA7.one hr8 hf8 (by simp)
  have hr8_a := hr7_a.fr hf8 (by simp <;> omega) (by simp <;> omega)
  have hr8_b := hr7_b.fr hf8 (by simp <;> omega) (by simp <;> omega)
  have hr8_32 := hr7_32.fr hf8 (by simp <;> omega) (by simp <;> omega)
  have hr8_30 := hr7.fr hf8 (by simp <;> omega) (by simp <;> omega)
  have hF8 := hF7.tr' (hf8.mono (by simp [SP]))
  show V X _ w _ _ s8 []
  refine v_aload_n hX 1 rfl (atL dAX3_saltIn_0 49 rfl) ?_
  refine gf_X3_14 hX hk10 (atL dAX3_saltIn_0 50 rfl) ?_
  refine v_iconst hX (atL dAX3_saltIn_0 51 rfl) ?_
  refine v_aload_n hX 1 rfl (atL dAX3_saltIn_0 52 rfl) ?_
  refine gf_X3_14 hX hk10 (atL dAX3_saltIn_0 53 rfl) ?_
  refine v_iconst hX (atL dAX3_saltIn_0 54 rfl) ?_
  refine v_callV hX (As := [.int (iI (0))]) (rest := [.int (iI (0)), .ref (w.1 1 29)]) (c_X4_at (xl X) w s8 29 (hP 1 29 (by simp [mn, tp])) (hA8 29) 0 ⟨by omega, by omega⟩) lk_X3_75 (hP 1 29 (by simp [mn, tp])) (fun _ => rfl) rfl rfl rfl (by rw [hR]; exact ⟨Nat.le_of_ble_eq_true rfl, Nat.le_of_ble_eq_true rfl⟩) ⟨Nat.zero_le _, Nat.zero_le _⟩ rfl (Nat.le_of_ble_eq_true rfl) (atL dAX3_saltIn_0 55 rfl) (fun r9 z9 g9 => ?_)
  obtain ⟨ga9, gb9⟩ := g9
  rw [gb9]
  rw [hr8.2] at ga9
  rw [if_pos (by omega), show (0 : Int).toNat = 0 by omega] at ga9
  subst ga9
  have hb9 := hr8.by.get 0
  show V X _ w _ _ s8 [.int (iI ((((mix (List.replicate (rB r - hl h - 1 - 1 - lMb) 0 ++ [1] ++ Mb) (msk h (prf h Ma Mb) (rB r - hl h - 1))).getD 0 0 : Nat) : Int))), .int (iI (0)), .ref (w.1 1 29)]
  refine v_iload_n hX 3 rfl (atL dAX3_saltIn_0 56 rfl) ?_
  refine v_callS hX (As := [.int (iI ((r : Int)))]) (rest := [.int (iI ((((mix (List.replicate (rB r - hl h - 1 - 1 - lMb) 0 ++ [1] ++ Mb) (msk h (prf h Ma Mb) (rB r - hl h - 1))).getD 0 0 : Nat) : Int))), .int (iI (0)), .ref (w.1 1 29)]) (c_X3_highestKept (xl X) w s8 r (by omega)) lk_X3_102 rfl (by rw [hR]; exact ⟨Nat.le_of_ble_eq_true rfl, Nat.le_of_ble_eq_true rfl⟩) ⟨Nat.zero_le _, Nat.zero_le _⟩ rfl (Nat.le_of_ble_eq_true rfl) (atL dAX3_saltIn_0 57 rfl) (fun rk1 zk1 gk1 => ?_)
  obtain ⟨gka1, gkb1⟩ := gk1
  rw [gkb1]
  subst gka1
  show V X _ w _ _ s8 [.int (iI (((255 / 2 ^ rS r : Nat) : Int))), .int (iI ((((mix (List.replicate (rB r - hl h - 1 - 1 - lMb) 0 ++ [1] ++ Mb) (msk h (prf h Ma Mb) (rB r - hl h - 1))).getD 0 0 : Nat) : Int))), .int (iI (0)), .ref (w.1 1 29)]
  have hpm111 := pmod (rS r) (rS_lt r) ((mix (List.replicate (rB r - hl h - 1 - 1 - lMb) 0 ++ [1] ++ Mb) (msk h (prf h Ma Mb) (rB r - hl h - 1))).getD 0 0)
  refine v_iand hX (r := iI ((((mix (List.replicate (rB r - hl h - 1 - 1 - lMb) 0 ++ [1] ++ Mb) (msk h (prf h Ma Mb) (rB r - hl h - 1))).getD 0 0 % 2 ^ (8 - rS r) : Nat) : Int))) (kand (rS r) (rS_lt r) _ (by assumption)) (atL dAX3_saltIn_0 58 rfl) ?_
  refine v_callV hX (As := [.int (iI (0)), .int (iI ((((mix (List.replicate (rB r - hl h - 1 - 1 - lMb) 0 ++ [1] ++ Mb) (msk h (prf h Ma Mb) (rB r - hl h - 1))).getD 0 0 % 2 ^ (8 - rS r) : Nat) : Int)))]) (rest := []) (c_X4_put (xl X) w s8 29 (hP 1 29 (by simp [mn, tp])) (hA8 29) 0 ((((mix (List.replicate (rB r - hl h - 1 - 1 - lMb) 0 ++ [1] ++ Mb) (msk h (prf h Ma Mb) (rB r - hl h - 1))).getD 0 0 % 2 ^ (8 - rS r) : Nat) : Int)) ⟨by omega, by omega⟩) lk_X3_105 (hP 1 29 (by simp [mn, tp])) (fun _ => rfl) rfl rfl rfl (by rw [hR]; exact ⟨Nat.le_of_ble_eq_true rfl, Nat.le_of_ble_eq_true rfl⟩) ⟨Nat.zero_le _, Nat.zero_le _⟩ rfl (Nat.le_of_ble_eq_true rfl) (atL dAX3_saltIn_0 59 rfl) (fun _ s10 e10 => ?_)
  rw [hr8.2, if_pos ⟨by omega, by rw [hl8]; omega⟩, show (((((mix (List.replicate (rB r - hl h - 1 - 1 - lMb) 0 ++ [1] ++ Mb) (msk h (prf h Ma Mb) (rB r - hl h - 1))).getD 0 0 % 2 ^ (8 - rS r) : Nat) : Int) : Int) % 256).toNat = (mix (List.replicate (rB r - hl h - 1 - 1 - lMb) 0 ++ [1] ++ Mb) (msk h (prf h Ma Mb) (rB r - hl h - 1))).getD 0 0 % 2 ^ (8 - rS r) from (by omega), show (0 : Int).toNat = 0 from rfl] at e10
  have hl10 : ((mix (List.replicate (rB r - hl h - 1 - 1 - lMb) 0 ++ [1] ++ Mb) (msk h (prf h Ma Mb) (rB r - hl h - 1))).set 0 ((mix (List.replicate (rB r - hl h - 1 - 1 - lMb) 0 ++ [1] ++ Mb) (msk h (prf h Ma Mb) (rB r - hl h - 1))).getD 0 0 % 2 ^ (8 - rS r))).length = (rB r - hl h - 1 - 1 - lMb) + 1 + lMb := by rw [List.length_set, hl8]
  obtain ⟨hr10, hf10⟩ := RW_of (M := (mix (List.replicate (rB r - hl h - 1 - 1 - lMb) 0 ++ [1] ++ Mb) (msk h (prf h Ma Mb) (rB r - hl h - 1))).set 0 ((mix (List.replicate (rB r - hl h - 1 - 1 - lMb) 0 ++ [1] ++ Mb) (msk h (prf h Ma Mb) (rB r - hl h - 1))).getD 0 0 % 2 ^ (8 - rS r))) (hA8 29) e10 (by rw [hl10]; show _ ≤ 256; omega) (BY_set hr8.by (by omega))
  have hA10 := hA8.one hr10 hf10 (by simp)
  have hr10_a := hr8_a.fr hf10 (by simp <;> omega) (by simp <;> omega)
  have hr10_b := hr8_b.fr hf10 (by simp <;> omega) (by simp <;> omega)
  have hr10_32 := hr8_32.fr hf10 (by simp <;> omega) (by simp <;> omega)
  have hr10_30 := hr8_30.fr hf10 (by simp <;> omega) (by simp <;> omega)
  have hF10 := hF8.tr' (hf10.mono (by simp [SP]))
  show V X _ w _ _ s10 []
  have hD : (mix (List.replicate (rB r - hl h - 1 - 1 - lMb) 0 ++ [1] ++ Mb) (msk h (prf h Ma Mb) (rB r - hl h - 1))).set 0 ((mix (List.replicate (rB r - hl h - 1 - 1 - lMb) 0 ++ [1] ++ Mb) (msk h (prf h Ma Mb) (rB r - hl h - 1))).getD 0 0 % 2 ^ (8 - rS r)) = saltD h r Ma Mb := by subst hlMb; rfl
  rw [hD] at hr10 hl10
  refine v_aload_n hX 2 rfl (atL dAX3_saltIn_1 0 rfl) ?_
  refine v_iconst hX (atL dAX3_saltIn_1 1 rfl) ?_
  refine pf_X3_42 hX v25 (atL dAX3_saltIn_1 2 rfl) ?_
  rw [sr_nil]
  obtain ⟨hr11, hf11⟩ := RW_of (s := sr s10 25 []) (hA10 25) rfl (by simp) BY.nil
  generalize sr s10 25 [] = s11 at hr11 hf11 ⊢
  have hl11 : ([] : List Nat).length = 0 := rfl
  have hA11 := hA10.one hr11 hf11 (by simp)
  have hr11_a := hr10_a.fr hf11 (by simp <;> omega) (by simp <;> omega)
  have hr11_b := hr10_b.fr hf11 (by simp <;> omega) (by simp <;> omega)
  have hr11_32 := hr10_32.fr hf11 (by simp <;> omega) (by simp <;> omega)
  have hr11_29 := hr10.fr hf11 (by simp <;> omega) (by simp <;> omega)
  have hr11_30 := hr10_30.fr hf11 (by simp <;> omega) (by simp <;> omega)
  have hF11 := hF10.tr' (hf11.mono (by simp [SP]))
  refine v_aload_n hX 2 rfl (atL dAX3_saltIn_1 3 rfl) ?_
  refine v_aload_n hX 1 rfl (atL dAX3_saltIn_1 4 rfl) ?_
  refine gf_X3_14 hX hk10 (atL dAX3_saltIn_1 5 rfl) ?_
  refine v_callV hX (As := [.ref (w.1 1 29)]) (rest := []) (c_X4_addRow (xl X) w s11 25 v25 (hA11 25) 29 (hP 1 29 (by simp [mn, tp])) (hA11 29) (by omega) (by rw [hr11.2, hr11_29.2, hl11, hl10]; show _ ≤ 256; omega)) lk_X3_57 v25 (fun _ => rfl) rfl rfl rfl (by rw [hR]; exact ⟨Nat.le_of_ble_eq_true rfl, Nat.le_of_ble_eq_true rfl⟩) ⟨Nat.zero_le _, Nat.zero_le _⟩ rfl (Nat.le_of_ble_eq_true rfl) (atL dAX3_saltIn_1 6 rfl) (fun _ s12 e12 => ?_)
  rw [hr11.2, hr11_29.2] at e12
  rw [List.nil_append] at e12
  have hl12 : ((saltD h r Ma Mb)).length = ((rB r - hl h - 1 - 1 - lMb) + 1 + lMb) := by exact hl10
  obtain ⟨hr12, hf12⟩ := RW_of (M := (saltD h r Ma Mb)) (hA11 25) e12 (by rw [hl12]; show _ ≤ 256; omega) (hr11_29.by)
  have hA12 := hA11.one hr12 hf12 (by simp)
  have hr12_a := hr11_a.fr hf12 (by simp <;> omega) (by simp <;> omega)
  have hr12_b := hr11_b.fr hf12 (by simp <;> omega) (by simp <;> omega)
  have hr12_32 := hr11_32.fr hf12 (by simp <;> omega) (by simp <;> omega)
  have hr12_29 := hr11_29.fr hf12 (by simp <;> omega) (by simp <;> omega)
  have hr12_30 := hr11_30.fr hf12 (by simp <;> omega) (by simp <;> omega)
  have hF12 := hF11.tr' (hf12.mono (by simp [SP]))
  show V X _ w _ _ s12 []
  refine v_aload_n hX 2 rfl (atL dAX3_saltIn_1 7 rfl) ?_
  refine v_aload_n hX 1 rfl (atL dAX3_saltIn_1 8 rfl) ?_
  refine gf_X3_26 hX hk10 (atL dAX3_saltIn_1 9 rfl) ?_
  refine v_callV hX (As := [.ref (w.1 1 32)]) (rest := []) (c_X4_addRow (xl X) w s12 25 v25 (hA12 25) 32 (hP 1 32 (by simp [mn, tp])) (hA12 32) (by omega) (by rw [hr12.2, hr12_32.2, hl12, hl2]; show _ ≤ 256; omega)) lk_X3_57 v25 (fun _ => rfl) rfl rfl rfl (by rw [hR]; exact ⟨Nat.le_of_ble_eq_true rfl, Nat.le_of_ble_eq_true rfl⟩) ⟨Nat.zero_le _, Nat.zero_le _⟩ rfl (Nat.le_of_ble_eq_true rfl) (atL dAX3_saltIn_1 10 rfl) (fun _ s13 e13 => ?_)
  rw [hr12.2, hr12_32.2] at e13
  have hl13 : ((saltD h r Ma Mb) ++ (prf h Ma Mb)).length = ((rB r - hl h - 1 - 1 - lMb) + 1 + lMb) + (hl h) := by rw [List.length_append, hl12, hl2]
  obtain ⟨hr13, hf13⟩ := RW_of (M := (saltD h r Ma Mb) ++ (prf h Ma Mb)) (hA12 25) e13 (by rw [hl13]; show _ ≤ 256; omega) (hr12.by.app hr12_32.by)
  have hA13 := hA12.one hr13 hf13 (by simp)
  have hr13_a := hr12_a.fr hf13 (by simp <;> omega) (by simp <;> omega)
  have hr13_b := hr12_b.fr hf13 (by simp <;> omega) (by simp <;> omega)
  have hr13_32 := hr12_32.fr hf13 (by simp <;> omega) (by simp <;> omega)
  have hr13_29 := hr12_29.fr hf13 (by simp <;> omega) (by simp <;> omega)
  have hr13_30 := hr12_30.fr hf13 (by simp <;> omega) (by simp <;> omega)
  have hF13 := hF12.tr' (hf13.mono (by simp [SP]))
  show V X _ w _ _ s13 []
  refine v_aload_n hX 2 rfl (atL dAX3_saltIn_1 11 rfl) ?_
  refine v_sipush hX (by decide +kernel) (atL dAX3_saltIn_1 12 rfl) ?_
  refine v_callV hX (As := [.int (iI (188))]) (rest := []) (c_X4_add (xl X) w s13 25 v25 (hA13 25) 188 (by rw [hr13.2, hl13]; show _ < 256; omega)) lk_X3_54 v25 (fun _ => rfl) rfl rfl rfl (by rw [hR]; exact ⟨Nat.le_of_ble_eq_true rfl, Nat.le_of_ble_eq_true rfl⟩) ⟨Nat.zero_le _, Nat.zero_le _⟩ rfl (Nat.le_of_ble_eq_true rfl) (atL dAX3_saltIn_1 13 rfl) (fun _ s14 e14 => ?_)
  rw [hr13.2, show ((188 : Int) % 256).toNat = 188 from rfl] at e14
  have hl14 : ((saltD h r Ma Mb) ++ (prf h Ma Mb) ++ [188]).length = ((rB r - hl h - 1 - 1 - lMb) + 1 + lMb) + (hl h) + 1 := by rw [List.length_append, hl13]; rfl
  obtain ⟨hr14, hf14⟩ := RW_of (M := (saltD h r Ma Mb) ++ (prf h Ma Mb) ++ [188]) (hA13 25) e14 (by rw [hl14]; show _ ≤ 256; omega) (hr13.by.app (BY.one (by omega)))
  have hA14 := hA13.one hr14 hf14 (by simp)
  have hr14_a := hr13_a.fr hf14 (by simp <;> omega) (by simp <;> omega)
  have hr14_b := hr13_b.fr hf14 (by simp <;> omega) (by simp <;> omega)
  have hr14_32 := hr13_32.fr hf14 (by simp <;> omega) (by simp <;> omega)
  have hr14_29 := hr13_29.fr hf14 (by simp <;> omega) (by simp <;> omega)
  have hr14_30 := hr13_30.fr hf14 (by simp <;> omega) (by simp <;> omega)
  have hF14 := hF13.tr' (hf14.mono (by simp [SP]))
  show V X _ w _ _ s14 []
  exact v_vret hX (atL dAX3_saltIn_1 14 rfl) (hret () _ ⟨hr14, hA14, hF14⟩)

theorem knz {a p : Nat} (hp : 0 < p) : a / p * p = 0 ↔ a < p := by
  constructor
  · intro h
    rcases Nat.mul_eq_zero.mp h with q | q
    · exact (Nat.div_eq_zero_iff_lt hp).mp q
    · omega
  · intro h
    rw [(Nat.div_eq_zero_iff_lt hp).mpr h, Nat.zero_mul]

set_option maxHeartbeats 1000000 in
set_option maxRecDepth 100000 in
theorem c_X3_tasteFrom (l : Launch) (w : Wl) (σ : St) (hk10 : w.2 10 0) (v26 : w.2 1 26) (hA : AR σ) (r : Nat) (h : Int) (hh : rI h) (Mf : List Nat) (hf : RW σ 26 Mf) (hrf : rB r ≤ Mf.length) (a : Nat) (hav : w.2 1 a) (ha2 : a < 24) (Ma : List Nat) (ha : RW σ a Ma) (x : Nat) (hfit : hl h + x + 2 ≤ rB r) : Cn l yX3_tasteFrom cX3_tasteFrom 10 (Option.some Jvm.ClassFile.FieldType.boolean) 5 122 wI [.ref (w.1 10 0), .ref (w.1 1 26), .int (iI ((r : Int))), .int (iI (h)), .ref (w.1 1 a), .int (iI ((x : Int)))] w σ (fun a' σ' => tf a' (tasteOK h r Mf Ma x) ∧ AR σ' ∧ Fr SP σ σ') := by
  refine Cn.of (own := RX3) (lv := [(0, .ref (w.1 10 0)), (1, .ref (w.1 1 26)), (2, .int (iI ((r : Int)))), (3, .int (iI (h))), (4, .ref (w.1 1 a)), (5, .int (iI ((x : Int))))]) (by decide +kernel) rfl (Nat.le_of_ble_eq_true rfl) rfl (fun X hX hxl hR hcl hret => ?_)
  subst hxl
  have hP : ∀ c q, (c, q) ∈ mn σ 10 0 → w.2 c q := fun c q h => hcl 10 0 hk10 (c, q) h
  have hll := hl_le h
  have hlg := hl_ge h
  obtain ⟨lMf, hlMf⟩ : ∃ q, Mf.length = q := ⟨_, rfl⟩
  have hqMf := hf.le
  rw [hlMf] at hqMf
  have hcMf : Mf.length ≤ 256 := hf.cap
  rw [hlMf] at hcMf
  obtain ⟨lMa, hlMa⟩ : ∃ q, Ma.length = q := ⟨_, rfl⟩
  have hqMa := ha.le
  rw [hlMa] at hqMa
  rw [hlMf] at hrf
  have hrr : r < 100000 := by unfold rB at hrf; omega
  refine v_iload_n hX 3 rfl (atL dAX3_tasteFrom_0 0 rfl) ?_
  refine v_callS hX (As := [.int (iI (h))]) (rest := []) (c_X1_lengthOf (xl X) w σ h hh) lk_X3_36 rfl (by rw [hR]; exact ⟨Nat.le_of_ble_eq_true rfl, Nat.le_of_ble_eq_true rfl⟩) ⟨Nat.zero_le _, Nat.zero_le _⟩ rfl (Nat.le_of_ble_eq_true rfl) (atL dAX3_tasteFrom_0 1 rfl) (fun r1 z1 g1 => ?_)
  obtain ⟨ga1, gb1⟩ := g1
  rw [gb1]
  subst ga1
  show V X _ w _ _ σ [.int (iI ((hl h : Int)))]
  refine v_istore hX (lv' := [(6, .int (iI ((hl h : Int)))), (0, .ref (w.1 10 0)), (1, .ref (w.1 1 26)), (2, .int (iI ((r : Int)))), (3, .int (iI (h))), (4, .ref (w.1 1 a)), (5, .int (iI ((x : Int))))]) (Nat.le_of_ble_eq_true rfl) rfl (atL dAX3_tasteFrom_0 2 rfl) ?_
  refine v_aload_n hX 2 rfl (atL dAX3_tasteFrom_0 3 rfl) ?_
  refine gf_X3_42 hX (v := ((lMf : Nat) : Int)) ((hf.len.trans (by rw [hlMf]))) v26 (atL dAX3_tasteFrom_0 4 rfl) ?_
  refine v_iload_n hX 3 rfl (atL dAX3_tasteFrom_0 5 rfl) ?_
  refine v_callS hX (As := [.int (iI ((r : Int)))]) (rest := [.int (iI (((lMf : Nat) : Int)))]) (c_X3_bytesOf (xl X) w σ r (by omega)) lk_X3_96 rfl (by rw [hR]; exact ⟨Nat.le_of_ble_eq_true rfl, Nat.le_of_ble_eq_true rfl⟩) ⟨Nat.zero_le _, Nat.zero_le _⟩ rfl (Nat.le_of_ble_eq_true rfl) (atL dAX3_tasteFrom_0 6 rfl) (fun rb902 z902 gg902 => ?_)
  obtain ⟨ga902, gb902⟩ := gg902
  rw [gb902]
  subst ga902
  show V X _ w _ _ σ [.int (iI (((rB r : Nat) : Int))), .int (iI (((lMf : Nat) : Int)))]
  refine v_isub hX (iI_sub _ _) (atL dAX3_tasteFrom_0 7 rfl) ?_
  rw [show ((((lMf : Nat) : Int)) - (((rB r : Nat) : Int))) = ((lMf - rB r : Nat) : Int) from (by omega)]
  refine v_istore hX (lv' := [(7, .int (iI (((lMf - rB r : Nat) : Int)))), (6, .int (iI ((hl h : Int)))), (0, .ref (w.1 10 0)), (1, .ref (w.1 1 26)), (2, .int (iI ((r : Int)))), (3, .int (iI (h))), (4, .ref (w.1 1 a)), (5, .int (iI ((x : Int))))]) (Nat.le_of_ble_eq_true rfl) rfl (atL dAX3_tasteFrom_0 8 rfl) ?_
  refine v_iload_n hX 4 rfl (atL dAX3_tasteFrom_0 9 rfl) ?_
  refine v_callS hX (As := [.int (iI ((r : Int)))]) (rest := []) (c_X3_bytesOf (xl X) w σ r (by omega)) lk_X3_96 rfl (by rw [hR]; exact ⟨Nat.le_of_ble_eq_true rfl, Nat.le_of_ble_eq_true rfl⟩) ⟨Nat.zero_le _, Nat.zero_le _⟩ rfl (Nat.le_of_ble_eq_true rfl) (atL dAX3_tasteFrom_0 10 rfl) (fun rb903 z903 gg903 => ?_)
  obtain ⟨ga903, gb903⟩ := gg903
  rw [gb903]
  subst ga903
  show V X _ w _ _ σ [.int (iI (((rB r : Nat) : Int)))]
  refine v_iload hX 1 rfl (atL dAX3_tasteFrom_0 11 rfl) ?_
  refine v_isub hX (iI_sub _ _) (atL dAX3_tasteFrom_0 12 rfl) ?_
  refine v_iconst hX (atL dAX3_tasteFrom_0 13 rfl) ?_
  refine v_isub hX (iI_sub _ _) (atL dAX3_tasteFrom_0 14 rfl) ?_
  rw [show (((((rB r : Nat) : Int)) - ((hl h : Int))) - 1) = ((rB r - hl h - 1 : Nat) : Int) from (by omega)]
  refine v_istore hX (lv' := [(8, .int (iI (((rB r - hl h - 1 : Nat) : Int)))), (7, .int (iI (((lMf - rB r : Nat) : Int)))), (6, .int (iI ((hl h : Int)))), (0, .ref (w.1 10 0)), (1, .ref (w.1 1 26)), (2, .int (iI ((r : Int)))), (3, .int (iI (h))), (4, .ref (w.1 1 a)), (5, .int (iI ((x : Int))))]) (Nat.le_of_ble_eq_true rfl) rfl (atL dAX3_tasteFrom_0 15 rfl) ?_
  refine v_iload hX 1 rfl (atL dAX3_tasteFrom_0 16 rfl) ?_
  refine v_if_le hX ⟨by omega, by omega⟩ (tgt := 41) (atL dAX3_tasteFrom_0 17 rfl) (by decide) (fun h30 => ?_) (fun h30 => ?_)
  · refine v_aload_n hX 4 rfl (atL dAX3_tasteFrom_0 22 rfl) ?_
    refine v_aload_n hX 4 rfl (atL dAX3_tasteFrom_0 23 rfl) ?_
    refine gf_X3_42 hX (v := ((lMf : Nat) : Int)) ((hf.len.trans (by rw [hlMf]))) v26 (atL dAX3_tasteFrom_0 24 rfl) ?_
    refine v_iconst hX (atL dAX3_tasteFrom_0 25 rfl) ?_
    refine v_isub hX (iI_sub _ _) (atL dAX3_tasteFrom_0 26 rfl) ?_
    rw [show ((((lMf : Nat) : Int)) - 1) = ((lMf - 1 : Nat) : Int) from (by omega)]
    refine v_callV hX (As := [.int (iI (((lMf - 1 : Nat) : Int)))]) (rest := []) (c_X4_at (xl X) w σ 26 v26 (hA 26) (((lMf - 1 : Nat) : Int)) ⟨by omega, by omega⟩) lk_X3_75 v26 (fun _ => rfl) rfl rfl rfl (by rw [hR]; exact ⟨Nat.le_of_ble_eq_true rfl, Nat.le_of_ble_eq_true rfl⟩) ⟨Nat.zero_le _, Nat.zero_le _⟩ rfl (Nat.le_of_ble_eq_true rfl) (atL dAX3_tasteFrom_0 27 rfl) (fun r2 z2 g2 => ?_)
    obtain ⟨ga2, gb2⟩ := g2
    rw [gb2]
    rw [hf.2] at ga2
    rw [if_pos (by omega), show (((lMf - 1 : Nat) : Int) : Int).toNat = lMf - 1 by omega] at ga2
    subst ga2
    have hb2 := hf.by.get (lMf - 1)
    show V X _ w _ _ σ [.int (iI ((((Mf).getD (lMf - 1) 0 : Nat) : Int)))]
    refine v_sipush hX (by decide +kernel) (atL dAX3_tasteFrom_0 28 rfl) ?_
    refine v_icmp_eq hX ⟨by omega, by omega⟩ ⟨by omega, by omega⟩ (tgt := 59) (atL dAX3_tasteFrom_0 29 rfl) (by decide) (fun h54 => ?_) (fun h54 => ?_)
    · refine v_aload_n hX 3 rfl (atL dAX3_tasteFrom_0 32 rfl) ?_
      refine gf_X3_14 hX hk10 (atL dAX3_tasteFrom_0 33 rfl) ?_
      refine v_aload_n hX 4 rfl (atL dAX3_tasteFrom_0 34 rfl) ?_
      refine v_iload hX 1 rfl (atL dAX3_tasteFrom_0 35 rfl) ?_
      refine v_iload hX 0 rfl (atL dAX3_tasteFrom_0 36 rfl) ?_
      refine v_callV hX (As := [.ref (w.1 1 26), .int (iI (((lMf - rB r : Nat) : Int))), .int (iI (((rB r - hl h - 1 : Nat) : Int)))]) (rest := []) (c_X4_takePart (xl X) w σ 29 (hP 1 29 (by simp [mn, tp])) (hA 29) 26 v26 (hA 26) (by omega) (lMf - rB r) (rB r - hl h - 1) (by rw [hf.2, hlMf]; omega) (by show _ ≤ 256; omega)) lk_X3_68 (hP 1 29 (by simp [mn, tp])) (fun _ => rfl) rfl rfl rfl (by rw [hR]; exact ⟨Nat.le_of_ble_eq_true rfl, Nat.le_of_ble_eq_true rfl⟩) ⟨Nat.zero_le _, Nat.zero_le _⟩ rfl (Nat.le_of_ble_eq_true rfl) (atL dAX3_tasteFrom_0 37 rfl) (fun _ s3 e3 => ?_)
      rw [hf.2] at e3
      have hl3 : ((Mf.drop (lMf - rB r)).take (rB r - hl h - 1)).length = (rB r - hl h - 1) := by rw [List.length_take, List.length_drop, hlMf]; omega
      obtain ⟨hr3, hf3⟩ := RW_of (M := (Mf.drop (lMf - rB r)).take (rB r - hl h - 1)) (hA 29) e3 (by rw [hl3]; show _ ≤ 256; omega) (hf.by.drop.take)
      have hA3 := hA.one hr3 hf3 (by simp)
      have hr3_26 := hf.fr hf3 (by simp <;> omega) (by simp <;> omega)
      have hr3_a := ha.fr hf3 (by simp <;> omega) (by simp <;> omega)
      have hF3 := (Fr.rf : Fr SP σ σ).tr' (hf3.mono (by simp [SP]))
      show V X _ w _ _ s3 []
      have hX1 : (Mf.drop (lMf - rB r)).take (rB r - hl h - 1) = tasteX h r Mf := by subst hlMf; rfl
      rw [hX1] at hr3 hl3
      refine v_aload_n hX 3 rfl (atL dAX3_tasteFrom_0 38 rfl) ?_
      refine gf_X3_23 hX hk10 (atL dAX3_tasteFrom_0 39 rfl) ?_
      refine v_aload_n hX 4 rfl (atL dAX3_tasteFrom_0 40 rfl) ?_
      refine v_iload hX 1 rfl (atL dAX3_tasteFrom_0 41 rfl) ?_
      refine v_iload hX 0 rfl (atL dAX3_tasteFrom_0 42 rfl) ?_
      refine v_iadd hX (iI_add _ _) (atL dAX3_tasteFrom_0 43 rfl) ?_
      rw [show ((((lMf - rB r : Nat) : Int)) + (((rB r - hl h - 1 : Nat) : Int))) = ((lMf - rB r + (rB r - hl h - 1) : Nat) : Int) from (by omega)]
      refine v_iload hX 2 rfl (atL dAX3_tasteFrom_0 44 rfl) ?_
      refine v_callV hX (As := [.ref (w.1 1 26), .int (iI (((lMf - rB r + (rB r - hl h - 1) : Nat) : Int))), .int (iI ((hl h : Int)))]) (rest := []) (c_X4_takePart (xl X) w s3 31 (hP 1 31 (by simp [mn, tp])) (hA3 31) 26 v26 (hA3 26) (by omega) (lMf - rB r + (rB r - hl h - 1)) (hl h) (by rw [hr3_26.2, hlMf]; omega) (by show _ ≤ 256; omega)) lk_X3_68 (hP 1 31 (by simp [mn, tp])) (fun _ => rfl) rfl rfl rfl (by rw [hR]; exact ⟨Nat.le_of_ble_eq_true rfl, Nat.le_of_ble_eq_true rfl⟩) ⟨Nat.zero_le _, Nat.zero_le _⟩ rfl (Nat.le_of_ble_eq_true rfl) (atL dAX3_tasteFrom_0 45 rfl) (fun _ s4 e4 => ?_)
      rw [hr3_26.2] at e4
      have hl4 : ((Mf.drop (lMf - rB r + (rB r - hl h - 1))).take (hl h)).length = (hl h) := by rw [List.length_take, List.length_drop, hlMf]; omega
      obtain ⟨hr4, hf4⟩ := RW_of (M := (Mf.drop (lMf - rB r + (rB r - hl h - 1))).take (hl h)) (hA3 31) e4 (by rw [hl4]; show _ ≤ 256; omega) (hr3_26.by.drop.take)
      have hA4 := hA3.one hr4 hf4 (by simp)
      have hr4_26 := hr3_26.fr hf4 (by simp <;> omega) (by simp <;> omega)
      have hr4_a := hr3_a.fr hf4 (by simp <;> omega) (by simp <;> omega)
      have hr4_29 := hr3.fr hf4 (by simp <;> omega) (by simp <;> omega)
      have hF4 := hF3.tr' (hf4.mono (by simp [SP]))
      show V X _ w _ _ s4 []
      have hS1 : (Mf.drop (lMf - rB r + (rB r - hl h - 1))).take (hl h) = tasteS h r Mf := by subst hlMf; rfl
      rw [hS1] at hr4 hl4
      have hS := hl4
      refine v_aload_n hX 3 rfl (atL dAX3_tasteFrom_0 46 rfl) ?_
      refine gf_X3_14 hX hk10 (atL dAX3_tasteFrom_0 47 rfl) ?_
      refine v_iconst hX (atL dAX3_tasteFrom_0 48 rfl) ?_
      refine v_callV hX (As := [.int (iI (0))]) (rest := []) (c_X4_at (xl X) w s4 29 (hP 1 29 (by simp [mn, tp])) (hA4 29) 0 ⟨by omega, by omega⟩) lk_X3_75 (hP 1 29 (by simp [mn, tp])) (fun _ => rfl) rfl rfl rfl (by rw [hR]; exact ⟨Nat.le_of_ble_eq_true rfl, Nat.le_of_ble_eq_true rfl⟩) ⟨Nat.zero_le _, Nat.zero_le _⟩ rfl (Nat.le_of_ble_eq_true rfl) (atL dAX3_tasteFrom_0 49 rfl) (fun r5 z5 g5 => ?_)
      obtain ⟨ga5, gb5⟩ := g5
      rw [gb5]
      rw [hr4_29.2] at ga5
      rw [if_pos (by omega), show (0 : Int).toNat = 0 by omega] at ga5
      subst ga5
      have hb5 := hr4_29.by.get 0
      show V X _ w _ _ s4 [.int (iI ((((tasteX h r Mf).getD 0 0 : Nat) : Int)))]
      refine v_iload_n hX 5 rfl (atL dAX3_tasteFrom_0 50 rfl) ?_
      refine v_callS hX (As := [.int (iI ((r : Int)))]) (rest := [.int (iI ((((tasteX h r Mf).getD 0 0 : Nat) : Int)))]) (c_X3_highestKept (xl X) w s4 r (by omega)) lk_X3_102 rfl (by rw [hR]; exact ⟨Nat.le_of_ble_eq_true rfl, Nat.le_of_ble_eq_true rfl⟩) ⟨Nat.zero_le _, Nat.zero_le _⟩ rfl (Nat.le_of_ble_eq_true rfl) (atL dAX3_tasteFrom_0 51 rfl) (fun rk1 zk1 gk1 => ?_)
      obtain ⟨gka1, gkb1⟩ := gk1
      rw [gkb1]
      subst gka1
      show V X _ w _ _ s4 [.int (iI (((255 / 2 ^ rS r : Nat) : Int))), .int (iI ((((tasteX h r Mf).getD 0 0 : Nat) : Int)))]
      refine v_iconst hX (atL dAX3_tasteFrom_0 52 rfl) ?_
      refine v_ixor hX (r := (iI (((255 / 2 ^ rS r : Nat) : Int))) ^^^ (iI ((-1)))) rfl (atL dAX3_tasteFrom_0 53 rfl) ?_
      have hkz := knz (a := (tasteX h r Mf).getD 0 0) (p := 2 ^ (8 - rS r)) (Nat.two_pow_pos _)
      have hkl := Nat.div_mul_le_self ((tasteX h r Mf).getD 0 0) (2 ^ (8 - rS r))
      refine v_iand hX (r := iI ((((tasteX h r Mf).getD 0 0 / 2 ^ (8 - rS r) * 2 ^ (8 - rS r) : Nat) : Int))) (knot (rS r) (rS_lt r) _ (by assumption)) (atL dAX3_tasteFrom_0 54 rfl) ?_
      obtain ⟨qq, hqq⟩ : ∃ q, (tasteX h r Mf).getD 0 0 / 2 ^ (8 - rS r) * 2 ^ (8 - rS r) = q := ⟨_, rfl⟩
      rw [hqq] at hkz hkl
      rw [hqq]
      refine v_if_eq hX ⟨by omega, by omega⟩ (tgt := 106) (atL dAX3_tasteFrom_0 55 rfl) (by decide) (fun h101 => ?_) (fun h101 => ?_)
      · refine v_aload_n hX 3 rfl (atL dAX3_tasteFrom_0 58 rfl) ?_
        refine gf_X3_32 hX hk10 (atL dAX3_tasteFrom_0 59 rfl) ?_
        refine v_iload_n hX 6 rfl (atL dAX3_tasteFrom_1 0 rfl) ?_
        refine v_aload_n hX 3 rfl (atL dAX3_tasteFrom_1 1 rfl) ?_
        refine gf_X3_23 hX hk10 (atL dAX3_tasteFrom_1 2 rfl) ?_
        refine v_iload hX 0 rfl (atL dAX3_tasteFrom_1 3 rfl) ?_
        refine v_aload_n hX 3 rfl (atL dAX3_tasteFrom_1 4 rfl) ?_
        refine gf_X3_20 hX hk10 (atL dAX3_tasteFrom_1 5 rfl) ?_
        refine v_callV hX (As := [.int (iI (h)), .ref (w.1 1 31), .int (iI (((rB r - hl h - 1 : Nat) : Int))), .ref (w.1 1 30)]) (rest := []) (c_X1_setMask (xl X) w s4 (hP 8 0 (by simp [mn, tp])) hA4 h hh 31 (hP 1 31 (by simp [mn, tp])) (by rw [hr4.2, hl4]; omega) (rB r - hl h - 1) 30 (hP 1 30 (by simp [mn, tp])) (by show _ ≤ 256; omega) (by omega) (by omega) (by omega) (by omega) (by omega)) lk_X3_61 (hP 8 0 (by simp [mn, tp])) (fun _ => rfl) rfl rfl rfl (by rw [hR]; exact ⟨Nat.le_of_ble_eq_true rfl, Nat.le_of_ble_eq_true rfl⟩) ⟨Nat.zero_le _, Nat.zero_le _⟩ rfl (Nat.le_of_ble_eq_true rfl) (atL dAX3_tasteFrom_1 6 rfl) (fun _ s6 e6 => ?_)
        obtain ⟨hr6, hB6, hf6⟩ := e6
        rw [hr4.2] at hr6
        have hl6 : (msk h (tasteS h r Mf) (rB r - hl h - 1)).length = rB r - hl h - 1 := by exact msk_len
        have hA6 := hB6
        have hr6_26 := hr4_26.fr hf6 (by simp [SM] <;> omega) (by simp [SM] <;> omega)
        have hr6_a := hr4_a.fr hf6 (by simp [SM] <;> omega) (by simp [SM] <;> omega)
        have hr6_29 := hr4_29.fr hf6 (by simp [SM] <;> omega) (by simp [SM] <;> omega)
        have hr6_31 := hr4.fr hf6 (by simp [SM] <;> omega) (by simp [SM] <;> omega)
        have hF6 := hF4.tr' (hf6.mono (by simp [SP, SM]))
        show V X _ w _ _ s6 []
        refine v_aload_n hX 3 rfl (atL dAX3_tasteFrom_1 7 rfl) ?_
        refine gf_X3_14 hX hk10 (atL dAX3_tasteFrom_1 8 rfl) ?_
        refine v_aload_n hX 3 rfl (atL dAX3_tasteFrom_1 9 rfl) ?_
        refine gf_X3_20 hX hk10 (atL dAX3_tasteFrom_1 10 rfl) ?_
        refine v_callV hX (As := [.ref (w.1 1 30)]) (rest := []) (c_X4_mixWith (xl X) w s6 29 (hP 1 29 (by simp [mn, tp])) (hA6 29) 30 (hP 1 30 (by simp [mn, tp])) (hA6 30) (by omega)) lk_X3_65 (hP 1 29 (by simp [mn, tp])) (fun _ => rfl) rfl rfl rfl (by rw [hR]; exact ⟨Nat.le_of_ble_eq_true rfl, Nat.le_of_ble_eq_true rfl⟩) ⟨Nat.zero_le _, Nat.zero_le _⟩ rfl (Nat.le_of_ble_eq_true rfl) (atL dAX3_tasteFrom_1 11 rfl) (fun _ s7 e7 => ?_)
        rw [hr6_29.2, hr6.2] at e7
        have hl7 : (mix (tasteX h r Mf) (msk h (tasteS h r Mf) (rB r - hl h - 1))).length = (rB r - hl h - 1) := by rw [mix_len, hl3]
        obtain ⟨hr7, hf7⟩ := RW_of (M := mix (tasteX h r Mf) (msk h (tasteS h r Mf) (rB r - hl h - 1))) (hA6 29) e7 (by rw [hl7]; show _ ≤ 256; omega) (mix_by hr6_29.by hr6.by)
        have hA7 := hA6.one hr7 hf7 (by simp)
        have hr7_26 := hr6_26.fr hf7 (by simp <;> omega) (by simp <;> omega)
        have hr7_a := hr6_a.fr hf7 (by simp <;> omega) (by simp <;> omega)
        have hr7_31 := hr6_31.fr hf7 (by simp <;> omega) (by simp <;> omega)
        have hr7_30 := hr6.fr hf7 (by simp <;> omega) (by simp <;> omega)
        have hF7 := hF6.tr' (hf7.mono (by simp [SP]))
        show V X _ w _ _ s7 []
        refine v_aload_n hX 3 rfl (atL dAX3_tasteFrom_1 12 rfl) ?_
        refine gf_X3_14 hX hk10 (atL dAX3_tasteFrom_1 13 rfl) ?_
        refine v_iconst hX (atL dAX3_tasteFrom_1 14 rfl) ?_
        refine v_aload_n hX 3 rfl (atL dAX3_tasteFrom_1 15 rfl) ?_
        refine gf_X3_14 hX hk10 (atL dAX3_tasteFrom_1 16 rfl) ?_
        refine v_iconst hX (atL dAX3_tasteFrom_1 17 rfl) ?_
        refine v_callV hX (As := [.int (iI (0))]) (rest := [.int (iI (0)), .ref (w.1 1 29)]) (c_X4_at (xl X) w s7 29 (hP 1 29 (by simp [mn, tp])) (hA7 29) 0 ⟨by omega, by omega⟩) lk_X3_75 (hP 1 29 (by simp [mn, tp])) (fun _ => rfl) rfl rfl rfl (by rw [hR]; exact ⟨Nat.le_of_ble_eq_true rfl, Nat.le_of_ble_eq_true rfl⟩) ⟨Nat.zero_le _, Nat.zero_le _⟩ rfl (Nat.le_of_ble_eq_true rfl) (atL dAX3_tasteFrom_1 18 rfl) (fun r8 z8 g8 => ?_)
        obtain ⟨ga8, gb8⟩ := g8
        rw [gb8]
        rw [hr7.2] at ga8
        rw [if_pos (by omega), show (0 : Int).toNat = 0 by omega] at ga8
        subst ga8
        have hb8 := hr7.by.get 0
        show V X _ w _ _ s7 [.int (iI ((((mix (tasteX h r Mf) (msk h (tasteS h r Mf) (rB r - hl h - 1))).getD 0 0 : Nat) : Int))), .int (iI (0)), .ref (w.1 1 29)]
        refine v_iload_n hX 5 rfl (atL dAX3_tasteFrom_1 19 rfl) ?_
        refine v_callS hX (As := [.int (iI ((r : Int)))]) (rest := [.int (iI ((((mix (tasteX h r Mf) (msk h (tasteS h r Mf) (rB r - hl h - 1))).getD 0 0 : Nat) : Int))), .int (iI (0)), .ref (w.1 1 29)]) (c_X3_highestKept (xl X) w s7 r (by omega)) lk_X3_102 rfl (by rw [hR]; exact ⟨Nat.le_of_ble_eq_true rfl, Nat.le_of_ble_eq_true rfl⟩) ⟨Nat.zero_le _, Nat.zero_le _⟩ rfl (Nat.le_of_ble_eq_true rfl) (atL dAX3_tasteFrom_1 20 rfl) (fun rk2 zk2 gk2 => ?_)
        obtain ⟨gka2, gkb2⟩ := gk2
        rw [gkb2]
        subst gka2
        show V X _ w _ _ s7 [.int (iI (((255 / 2 ^ rS r : Nat) : Int))), .int (iI ((((mix (tasteX h r Mf) (msk h (tasteS h r Mf) (rB r - hl h - 1))).getD 0 0 : Nat) : Int))), .int (iI (0)), .ref (w.1 1 29)]
        have hpm152 := pmod (rS r) (rS_lt r) ((mix (tasteX h r Mf) (msk h (tasteS h r Mf) (rB r - hl h - 1))).getD 0 0)
        refine v_iand hX (r := iI ((((mix (tasteX h r Mf) (msk h (tasteS h r Mf) (rB r - hl h - 1))).getD 0 0 % 2 ^ (8 - rS r) : Nat) : Int))) (kand (rS r) (rS_lt r) _ (by assumption)) (atL dAX3_tasteFrom_1 21 rfl) ?_
        refine v_callV hX (As := [.int (iI (0)), .int (iI ((((mix (tasteX h r Mf) (msk h (tasteS h r Mf) (rB r - hl h - 1))).getD 0 0 % 2 ^ (8 - rS r) : Nat) : Int)))]) (rest := []) (c_X4_put (xl X) w s7 29 (hP 1 29 (by simp [mn, tp])) (hA7 29) 0 ((((mix (tasteX h r Mf) (msk h (tasteS h r Mf) (rB r - hl h - 1))).getD 0 0 % 2 ^ (8 - rS r) : Nat) : Int)) ⟨by omega, by omega⟩) lk_X3_105 (hP 1 29 (by simp [mn, tp])) (fun _ => rfl) rfl rfl rfl (by rw [hR]; exact ⟨Nat.le_of_ble_eq_true rfl, Nat.le_of_ble_eq_true rfl⟩) ⟨Nat.zero_le _, Nat.zero_le _⟩ rfl (Nat.le_of_ble_eq_true rfl) (atL dAX3_tasteFrom_1 22 rfl) (fun _ s9 e9 => ?_)
        rw [hr7.2, if_pos ⟨by omega, by rw [hl7]; omega⟩, show (((((mix (tasteX h r Mf) (msk h (tasteS h r Mf) (rB r - hl h - 1))).getD 0 0 % 2 ^ (8 - rS r) : Nat) : Int) : Int) % 256).toNat = (mix (tasteX h r Mf) (msk h (tasteS h r Mf) (rB r - hl h - 1))).getD 0 0 % 2 ^ (8 - rS r) from (by omega), show (0 : Int).toNat = 0 from rfl] at e9
        have hl9 : ((mix (tasteX h r Mf) (msk h (tasteS h r Mf) (rB r - hl h - 1))).set 0 ((mix (tasteX h r Mf) (msk h (tasteS h r Mf) (rB r - hl h - 1))).getD 0 0 % 2 ^ (8 - rS r))).length = (rB r - hl h - 1) := by rw [List.length_set, hl7]
        obtain ⟨hr9, hf9⟩ := RW_of (M := (mix (tasteX h r Mf) (msk h (tasteS h r Mf) (rB r - hl h - 1))).set 0 ((mix (tasteX h r Mf) (msk h (tasteS h r Mf) (rB r - hl h - 1))).getD 0 0 % 2 ^ (8 - rS r))) (hA7 29) e9 (by rw [hl9]; show _ ≤ 256; omega) (BY_set hr7.by (by omega))
        have hA9 := hA7.one hr9 hf9 (by simp)
        have hr9_26 := hr7_26.fr hf9 (by simp <;> omega) (by simp <;> omega)
        have hr9_a := hr7_a.fr hf9 (by simp <;> omega) (by simp <;> omega)
        have hr9_31 := hr7_31.fr hf9 (by simp <;> omega) (by simp <;> omega)
        have hr9_30 := hr7_30.fr hf9 (by simp <;> omega) (by simp <;> omega)
        have hF9 := hF7.tr' (hf9.mono (by simp [SP]))
        show V X _ w _ _ s9 []
        have hD : (mix (tasteX h r Mf) (msk h (tasteS h r Mf) (rB r - hl h - 1))).set 0 ((mix (tasteX h r Mf) (msk h (tasteS h r Mf) (rB r - hl h - 1))).getD 0 0 % 2 ^ (8 - rS r)) = tasteD h r Mf := rfl
        rw [hD] at hr9 hl9
        refine v_iload hX 0 rfl (atL dAX3_tasteFrom_1 23 rfl) ?_
        refine v_iload hX 8 rfl (atL dAX3_tasteFrom_1 24 rfl) ?_
        refine v_isub hX (iI_sub _ _) (atL dAX3_tasteFrom_1 25 rfl) ?_
        refine v_iconst hX (atL dAX3_tasteFrom_1 26 rfl) ?_
        refine v_isub hX (iI_sub _ _) (atL dAX3_tasteFrom_1 27 rfl) ?_
        rw [show (((((rB r - hl h - 1 : Nat) : Int)) - ((x : Int))) - 1) = ((rB r - hl h - 1 - x - 1 : Nat) : Int) from (by omega)]
        refine v_istore hX (lv' := [(9, .int (iI (((rB r - hl h - 1 - x - 1 : Nat) : Int)))), (8, .int (iI (((rB r - hl h - 1 : Nat) : Int)))), (7, .int (iI (((lMf - rB r : Nat) : Int)))), (6, .int (iI ((hl h : Int)))), (0, .ref (w.1 10 0)), (1, .ref (w.1 1 26)), (2, .int (iI ((r : Int)))), (3, .int (iI (h))), (4, .ref (w.1 1 a)), (5, .int (iI ((x : Int))))]) (Nat.le_of_ble_eq_true rfl) rfl (atL dAX3_tasteFrom_1 28 rfl) ?_
        refine v_aload_n hX 4 rfl (atL dAX3_tasteFrom_1 29 rfl) ?_
        refine gf_X3_14 hX hk10 (atL dAX3_tasteFrom_1 30 rfl) ?_
        refine v_iconst hX (atL dAX3_tasteFrom_1 31 rfl) ?_
        refine v_callV hX (As := [.int (iI (0))]) (rest := []) (c_X4_zerosFrom (xl X) w s9 29 (hP 1 29 (by simp [mn, tp])) (hA9 29) 0 (by rw [hr9.2, hl9]; omega)) lk_X3_72 (hP 1 29 (by simp [mn, tp])) (fun _ => rfl) rfl rfl rfl (by rw [hR]; exact ⟨Nat.le_of_ble_eq_true rfl, Nat.le_of_ble_eq_true rfl⟩) ⟨Nat.zero_le _, Nat.zero_le _⟩ rfl (Nat.le_of_ble_eq_true rfl) (atL dAX3_tasteFrom_1 32 rfl) (fun r10 z10 g10 => ?_)
        obtain ⟨ga10, gb10⟩ := g10
        rw [gb10]
        rw [hr9.2] at ga10
        subst ga10
        have hb10 := run_le (p := fun x => decide (x = 0)) (L := tasteD h r Mf) (k := 0)
        rw [hl9] at hb10
        show V X _ w _ _ s9 [.int (iI (((run (fun x => decide (x = 0)) (tasteD h r Mf) 0 : Nat) : Int)))]
        refine v_iload hX 0 rfl (atL dAX3_tasteFrom_1 33 rfl) ?_
        obtain ⟨nn, hnn⟩ : ∃ q, run (fun x => decide (x = 0)) (tasteD h r Mf) 0 = q := ⟨_, rfl⟩
        have hbn : nn ≤ rB r - hl h - 1 - 0 := by rw [← hnn]; assumption
        rw [hnn]
        refine v_icmp_ne hX ⟨by omega, by omega⟩ ⟨by omega, by omega⟩ (tgt := 191) (atL dAX3_tasteFrom_1 34 rfl) (by decide) (fun h175 => ?_) (fun h175 => ?_)
        · refine v_iconst hX (atL dAX3_tasteFrom_1 41 rfl) ?_
          exact v_zret hX (by decide +kernel) (atL dAX3_tasteFrom_1 42 rfl) (hret _ _ ⟨tf_n (fun q => absurd q.2.2.2.1 (by rw [hnn]; omega)), hA9, hF9⟩)
        · refine v_aload_n hX 4 rfl (atL dAX3_tasteFrom_1 35 rfl) ?_
          refine gf_X3_14 hX hk10 (atL dAX3_tasteFrom_1 36 rfl) ?_
          refine v_iload hX 0 rfl (atL dAX3_tasteFrom_1 37 rfl) ?_
          refine v_callV hX (As := [.int (iI (((rB r - hl h - 1 - x - 1 : Nat) : Int)))]) (rest := []) (c_X4_at (xl X) w s9 29 (hP 1 29 (by simp [mn, tp])) (hA9 29) (((rB r - hl h - 1 - x - 1 : Nat) : Int)) ⟨by omega, by omega⟩) lk_X3_75 (hP 1 29 (by simp [mn, tp])) (fun _ => rfl) rfl rfl rfl (by rw [hR]; exact ⟨Nat.le_of_ble_eq_true rfl, Nat.le_of_ble_eq_true rfl⟩) ⟨Nat.zero_le _, Nat.zero_le _⟩ rfl (Nat.le_of_ble_eq_true rfl) (atL dAX3_tasteFrom_1 38 rfl) (fun r11 z11 g11 => ?_)
          obtain ⟨ga11, gb11⟩ := g11
          rw [gb11]
          rw [hr9.2] at ga11
          rw [if_pos (by omega), show (((rB r - hl h - 1 - x - 1 : Nat) : Int) : Int).toNat = rB r - hl h - 1 - x - 1 by omega] at ga11
          subst ga11
          have hb11 := hr9.by.get (rB r - hl h - 1 - x - 1)
          show V X _ w _ _ s9 [.int (iI ((((tasteD h r Mf).getD (rB r - hl h - 1 - x - 1) 0 : Nat) : Int)))]
          refine v_iconst hX (atL dAX3_tasteFrom_1 39 rfl) ?_
          refine v_icmp_eq hX ⟨by omega, by omega⟩ ⟨by omega, by omega⟩ (tgt := 193) (atL dAX3_tasteFrom_1 40 rfl) (by decide) (fun h188 => ?_) (fun h188 => ?_)
          · refine v_aload_n hX 4 rfl (atL dAX3_tasteFrom_1 43 rfl) ?_
            refine gf_X3_20 hX hk10 (atL dAX3_tasteFrom_1 44 rfl) ?_
            refine v_aload_n hX 4 rfl (atL dAX3_tasteFrom_1 45 rfl) ?_
            refine gf_X3_14 hX hk10 (atL dAX3_tasteFrom_1 46 rfl) ?_
            refine v_iload hX 0 rfl (atL dAX3_tasteFrom_1 47 rfl) ?_
            refine v_iconst hX (atL dAX3_tasteFrom_1 48 rfl) ?_
            refine v_iadd hX (iI_add _ _) (atL dAX3_tasteFrom_1 49 rfl) ?_
            rw [show ((((rB r - hl h - 1 - x - 1 : Nat) : Int)) + 1) = ((rB r - hl h - 1 - x - 1 + 1 : Nat) : Int) from (by omega)]
            refine v_iload hX 9 rfl (atL dAX3_tasteFrom_1 50 rfl) ?_
            refine v_callV hX (As := [.ref (w.1 1 29), .int (iI (((rB r - hl h - 1 - x - 1 + 1 : Nat) : Int))), .int (iI ((x : Int)))]) (rest := []) (c_X4_takePart (xl X) w s9 30 (hP 1 30 (by simp [mn, tp])) (hA9 30) 29 (hP 1 29 (by simp [mn, tp])) (hA9 29) (by omega) (rB r - hl h - 1 - x - 1 + 1) x (by rw [hr9.2, hl9]; omega) (by show _ ≤ 256; omega)) lk_X3_68 (hP 1 30 (by simp [mn, tp])) (fun _ => rfl) rfl rfl rfl (by rw [hR]; exact ⟨Nat.le_of_ble_eq_true rfl, Nat.le_of_ble_eq_true rfl⟩) ⟨Nat.zero_le _, Nat.zero_le _⟩ rfl (Nat.le_of_ble_eq_true rfl) (atL dAX3_tasteFrom_1 51 rfl) (fun _ s12 e12 => ?_)
            rw [hr9.2] at e12
            have hl12 : (((tasteD h r Mf).drop (rB r - hl h - 1 - x - 1 + 1)).take x).length = x := by rw [List.length_take, List.length_drop, hl9]; omega
            obtain ⟨hr12, hf12⟩ := RW_of (M := ((tasteD h r Mf).drop (rB r - hl h - 1 - x - 1 + 1)).take x) (hA9 30) e12 (by rw [hl12]; show _ ≤ 256; omega) (hr9.by.drop.take)
            have hA12 := hA9.one hr12 hf12 (by simp)
            have hr12_26 := hr9_26.fr hf12 (by simp <;> omega) (by simp <;> omega)
            have hr12_a := hr9_a.fr hf12 (by simp <;> omega) (by simp <;> omega)
            have hr12_29 := hr9.fr hf12 (by simp <;> omega) (by simp <;> omega)
            have hr12_31 := hr9_31.fr hf12 (by simp <;> omega) (by simp <;> omega)
            have hF12 := hF9.tr' (hf12.mono (by simp [SP]))
            show V X _ w _ _ s12 []
            refine v_aload_n hX 4 rfl (atL dAX3_tasteFrom_1 52 rfl) ?_
            refine v_iload_n hX 7 rfl (atL dAX3_tasteFrom_1 53 rfl) ?_
            refine v_aload hX 8 rfl (atL dAX3_tasteFrom_1 54 rfl) ?_
            refine v_aload_n hX 4 rfl (atL dAX3_tasteFrom_1 55 rfl) ?_
            refine gf_X3_20 hX hk10 (atL dAX3_tasteFrom_1 56 rfl) ?_
            refine v_callV hX (As := [.int (iI (h)), .ref (w.1 1 a), .ref (w.1 1 30)]) (rest := []) (c_X3_setProof (xl X) w s12 hk10 hA12 h hh a hav Ma hr12_a 30 (hP 1 30 (by simp [mn, tp])) (((tasteD h r Mf).drop (rB r - hl h - 1 - x - 1 + 1)).take x) hr12 (by omega) (by rw [hl12]; omega) (by omega) (by omega)) lk_X3_99 hk10 (fun _ => rfl) rfl rfl rfl (by rw [hR]; exact ⟨Nat.le_of_ble_eq_true rfl, Nat.le_of_ble_eq_true rfl⟩) ⟨Nat.zero_le _, Nat.zero_le _⟩ rfl (Nat.le_of_ble_eq_true rfl) (atL dAX3_tasteFrom_1 57 rfl) (fun _ s13 e13 => ?_)
            obtain ⟨hr13, hB13, hf13⟩ := e13
            have hl13 : (prf h Ma (((tasteD h r Mf).drop (rB r - hl h - 1 - x - 1 + 1)).take x)).length = hl h := by exact sha_len
            have hA13 := hB13
            have hr13_26 := hr12_26.fr hf13 (by simp [SPP] <;> omega) (by simp [SPP] <;> omega)
            have hr13_a := hr12_a.fr hf13 (by simp [SPP] <;> omega) (by simp [SPP] <;> omega)
            have hr13_29 := hr12_29.fr hf13 (by simp [SPP] <;> omega) (by simp [SPP] <;> omega)
            have hr13_31 := hr12_31.fr hf13 (by simp [SPP] <;> omega) (by simp [SPP] <;> omega)
            have hr13_30 := hr12.fr hf13 (by simp [SPP] <;> omega) (by simp [SPP] <;> omega)
            have hF13 := hF12.tr' (hf13.mono (by simp [SP, SPP]))
            show V X _ w _ _ s13 []
            refine v_aload_n hX 4 rfl (atL dAX3_tasteFrom_1 58 rfl) ?_
            refine gf_X3_23 hX hk10 (atL dAX3_tasteFrom_1 59 rfl) ?_
            refine v_aload_n hX 4 rfl (atL dAX3_tasteFrom_2 0 rfl) ?_
            refine gf_X3_26 hX hk10 (atL dAX3_tasteFrom_2 1 rfl) ?_
            refine v_iconst hX (atL dAX3_tasteFrom_2 2 rfl) ?_
            refine v_callV hX (As := [.ref (w.1 1 32), .int (iI (0))]) (rest := []) (c_X4_holds (xl X) w s13 31 (hP 1 31 (by simp [mn, tp])) (hA13 31) 32 (hP 1 32 (by simp [mn, tp])) (hA13 32) (by omega)) lk_X3_78 (hP 1 31 (by simp [mn, tp])) (fun _ => rfl) rfl rfl rfl (by rw [hR]; exact ⟨Nat.le_of_ble_eq_true rfl, Nat.le_of_ble_eq_true rfl⟩) ⟨Nat.zero_le _, Nat.zero_le _⟩ rfl (Nat.le_of_ble_eq_true rfl) (atL dAX3_tasteFrom_2 3 rfl) (fun r14 z14 g14 => ?_)
            obtain ⟨ga14, gb14⟩ := g14
            rw [gb14]
            rw [hr13_31.2] at ga14
            rw [hr13.2] at ga14
            have gc14 : tf r14 ((tasteS h r Mf).take (prf h Ma (((tasteD h r Mf).drop (rB r - hl h - 1 - x - 1 + 1)).take x)).length = prf h Ma (((tasteD h r Mf).drop (rB r - hl h - 1 - x - 1 + 1)).take x)) := by rw [ga14]; split; exact tf_p (by assumption); exact tf_n (by assumption)
            have gd14 : r14 = 0 ∨ r14 = 1 := by rw [ga14]; split <;> simp
            show V X _ w _ _ s13 [.int (iI (r14))]
            exact v_zret hX (tf.zr gc14) (atL dAX3_tasteFrom_2 4 rfl) (hret _ _ ⟨gc14.iff ⟨fun q => ⟨fun g => by have := h30; omega, by rw [hlMf]; omega, hkz.mp (by omega), by rw [hnn]; omega, by omega, by rw [prf_len, List.take_of_length_le (by rw [hS]; exact Nat.le_refl _)] at q; exact q⟩, fun q => by rw [prf_len, List.take_of_length_le (by rw [hS]; exact Nat.le_refl _)]; exact q.2.2.2.2.2⟩, hA13, hF13⟩)
          · refine v_iconst hX (atL dAX3_tasteFrom_1 41 rfl) ?_
            exact v_zret hX (by decide +kernel) (atL dAX3_tasteFrom_1 42 rfl) (hret _ _ ⟨tf_n (fun q => absurd q.2.2.2.2.1 (by omega)), hA9, hF9⟩)
      · refine v_iconst hX (atL dAX3_tasteFrom_0 56 rfl) ?_
        exact v_zret hX (by decide +kernel) (atL dAX3_tasteFrom_0 57 rfl) (hret _ _ ⟨tf_n (fun q => absurd (hkz.mpr q.2.2.1) (by omega)), hA4, hF4⟩)
    · refine v_iconst hX (atL dAX3_tasteFrom_0 30 rfl) ?_
      exact v_zret hX (by decide +kernel) (atL dAX3_tasteFrom_0 31 rfl) (hret _ _ ⟨tf_n (fun q => absurd q.2.1 (by rw [hlMf]; omega)), hA, (Fr.rf : Fr SP σ σ)⟩)
  · refine v_aload_n hX 4 rfl (atL dAX3_tasteFrom_0 18 rfl) ?_
    refine v_iconst hX (atL dAX3_tasteFrom_0 19 rfl) ?_
    refine v_callV hX (As := [.int (iI (0))]) (rest := []) (c_X4_at (xl X) w σ 26 v26 (hA 26) 0 ⟨by omega, by omega⟩) lk_X3_75 v26 (fun _ => rfl) rfl rfl rfl (by rw [hR]; exact ⟨Nat.le_of_ble_eq_true rfl, Nat.le_of_ble_eq_true rfl⟩) ⟨Nat.zero_le _, Nat.zero_le _⟩ rfl (Nat.le_of_ble_eq_true rfl) (atL dAX3_tasteFrom_0 20 rfl) (fun r15 z15 g15 => ?_)
    obtain ⟨ga15, gb15⟩ := g15
    rw [gb15]
    rw [hf.2] at ga15
    rw [if_pos (by omega), show (0 : Int).toNat = 0 by omega] at ga15
    subst ga15
    have hb15 := hf.by.get 0
    show V X _ w _ _ σ [.int (iI ((((Mf).getD 0 0 : Nat) : Int)))]
    refine v_if_ne hX ⟨by omega, by omega⟩ (tgt := 57) (atL dAX3_tasteFrom_0 21 rfl) (by decide) (fun h38 => ?_) (fun h38 => ?_)
    · refine v_iconst hX (atL dAX3_tasteFrom_0 30 rfl) ?_
      exact v_zret hX (by decide +kernel) (atL dAX3_tasteFrom_0 31 rfl) (hret _ _ ⟨tf_n (fun q => absurd (q.1 (by subst hlMf; omega)) (by omega)), hA, (Fr.rf : Fr SP σ σ)⟩)
    · refine v_aload_n hX 4 rfl (atL dAX3_tasteFrom_0 22 rfl) ?_
      refine v_aload_n hX 4 rfl (atL dAX3_tasteFrom_0 23 rfl) ?_
      refine gf_X3_42 hX (v := ((lMf : Nat) : Int)) ((hf.len.trans (by rw [hlMf]))) v26 (atL dAX3_tasteFrom_0 24 rfl) ?_
      refine v_iconst hX (atL dAX3_tasteFrom_0 25 rfl) ?_
      refine v_isub hX (iI_sub _ _) (atL dAX3_tasteFrom_0 26 rfl) ?_
      rw [show ((((lMf : Nat) : Int)) - 1) = ((lMf - 1 : Nat) : Int) from (by omega)]
      refine v_callV hX (As := [.int (iI (((lMf - 1 : Nat) : Int)))]) (rest := []) (c_X4_at (xl X) w σ 26 v26 (hA 26) (((lMf - 1 : Nat) : Int)) ⟨by omega, by omega⟩) lk_X3_75 v26 (fun _ => rfl) rfl rfl rfl (by rw [hR]; exact ⟨Nat.le_of_ble_eq_true rfl, Nat.le_of_ble_eq_true rfl⟩) ⟨Nat.zero_le _, Nat.zero_le _⟩ rfl (Nat.le_of_ble_eq_true rfl) (atL dAX3_tasteFrom_0 27 rfl) (fun r16 z16 g16 => ?_)
      obtain ⟨ga16, gb16⟩ := g16
      rw [gb16]
      rw [hf.2] at ga16
      rw [if_pos (by omega), show (((lMf - 1 : Nat) : Int) : Int).toNat = lMf - 1 by omega] at ga16
      subst ga16
      have hb16 := hf.by.get (lMf - 1)
      show V X _ w _ _ σ [.int (iI ((((Mf).getD (lMf - 1) 0 : Nat) : Int)))]
      refine v_sipush hX (by decide +kernel) (atL dAX3_tasteFrom_0 28 rfl) ?_
      refine v_icmp_eq hX ⟨by omega, by omega⟩ ⟨by omega, by omega⟩ (tgt := 59) (atL dAX3_tasteFrom_0 29 rfl) (by decide) (fun h54 => ?_) (fun h54 => ?_)
      · refine v_aload_n hX 3 rfl (atL dAX3_tasteFrom_0 32 rfl) ?_
        refine gf_X3_14 hX hk10 (atL dAX3_tasteFrom_0 33 rfl) ?_
        refine v_aload_n hX 4 rfl (atL dAX3_tasteFrom_0 34 rfl) ?_
        refine v_iload hX 1 rfl (atL dAX3_tasteFrom_0 35 rfl) ?_
        refine v_iload hX 0 rfl (atL dAX3_tasteFrom_0 36 rfl) ?_
        refine v_callV hX (As := [.ref (w.1 1 26), .int (iI (((lMf - rB r : Nat) : Int))), .int (iI (((rB r - hl h - 1 : Nat) : Int)))]) (rest := []) (c_X4_takePart (xl X) w σ 29 (hP 1 29 (by simp [mn, tp])) (hA 29) 26 v26 (hA 26) (by omega) (lMf - rB r) (rB r - hl h - 1) (by rw [hf.2, hlMf]; omega) (by show _ ≤ 256; omega)) lk_X3_68 (hP 1 29 (by simp [mn, tp])) (fun _ => rfl) rfl rfl rfl (by rw [hR]; exact ⟨Nat.le_of_ble_eq_true rfl, Nat.le_of_ble_eq_true rfl⟩) ⟨Nat.zero_le _, Nat.zero_le _⟩ rfl (Nat.le_of_ble_eq_true rfl) (atL dAX3_tasteFrom_0 37 rfl) (fun _ s17 e17 => ?_)
        rw [hf.2] at e17
        have hl17 : ((Mf.drop (lMf - rB r)).take (rB r - hl h - 1)).length = (rB r - hl h - 1) := by rw [List.length_take, List.length_drop, hlMf]; omega
        obtain ⟨hr17, hf17⟩ := RW_of (M := (Mf.drop (lMf - rB r)).take (rB r - hl h - 1)) (hA 29) e17 (by rw [hl17]; show _ ≤ 256; omega) (hf.by.drop.take)
        have hA17 := hA.one hr17 hf17 (by simp)
        have hr17_26 := hf.fr hf17 (by simp <;> omega) (by simp <;> omega)
        have hr17_a := ha.fr hf17 (by simp <;> omega) (by simp <;> omega)
        have hF17 := (Fr.rf : Fr SP σ σ).tr' (hf17.mono (by simp [SP]))
        show V X _ w _ _ s17 []
        have hX1 : (Mf.drop (lMf - rB r)).take (rB r - hl h - 1) = tasteX h r Mf := by subst hlMf; rfl
        rw [hX1] at hr17 hl17
        refine v_aload_n hX 3 rfl (atL dAX3_tasteFrom_0 38 rfl) ?_
        refine gf_X3_23 hX hk10 (atL dAX3_tasteFrom_0 39 rfl) ?_
        refine v_aload_n hX 4 rfl (atL dAX3_tasteFrom_0 40 rfl) ?_
        refine v_iload hX 1 rfl (atL dAX3_tasteFrom_0 41 rfl) ?_
        refine v_iload hX 0 rfl (atL dAX3_tasteFrom_0 42 rfl) ?_
        refine v_iadd hX (iI_add _ _) (atL dAX3_tasteFrom_0 43 rfl) ?_
        rw [show ((((lMf - rB r : Nat) : Int)) + (((rB r - hl h - 1 : Nat) : Int))) = ((lMf - rB r + (rB r - hl h - 1) : Nat) : Int) from (by omega)]
        refine v_iload hX 2 rfl (atL dAX3_tasteFrom_0 44 rfl) ?_
        refine v_callV hX (As := [.ref (w.1 1 26), .int (iI (((lMf - rB r + (rB r - hl h - 1) : Nat) : Int))), .int (iI ((hl h : Int)))]) (rest := []) (c_X4_takePart (xl X) w s17 31 (hP 1 31 (by simp [mn, tp])) (hA17 31) 26 v26 (hA17 26) (by omega) (lMf - rB r + (rB r - hl h - 1)) (hl h) (by rw [hr17_26.2, hlMf]; omega) (by show _ ≤ 256; omega)) lk_X3_68 (hP 1 31 (by simp [mn, tp])) (fun _ => rfl) rfl rfl rfl (by rw [hR]; exact ⟨Nat.le_of_ble_eq_true rfl, Nat.le_of_ble_eq_true rfl⟩) ⟨Nat.zero_le _, Nat.zero_le _⟩ rfl (Nat.le_of_ble_eq_true rfl) (atL dAX3_tasteFrom_0 45 rfl) (fun _ s18 e18 => ?_)
        rw [hr17_26.2] at e18
        have hl18 : ((Mf.drop (lMf - rB r + (rB r - hl h - 1))).take (hl h)).length = (hl h) := by rw [List.length_take, List.length_drop, hlMf]; omega
        obtain ⟨hr18, hf18⟩ := RW_of (M := (Mf.drop (lMf - rB r + (rB r - hl h - 1))).take (hl h)) (hA17 31) e18 (by rw [hl18]; show _ ≤ 256; omega) (hr17_26.by.drop.take)
        have hA18 := hA17.one hr18 hf18 (by simp)
        have hr18_26 := hr17_26.fr hf18 (by simp <;> omega) (by simp <;> omega)
        have hr18_a := hr17_a.fr hf18 (by simp <;> omega) (by simp <;> omega)
        have hr18_29 := hr17.fr hf18 (by simp <;> omega) (by simp <;> omega)
        have hF18 := hF17.tr' (hf18.mono (by simp [SP]))
        show V X _ w _ _ s18 []
        have hS1 : (Mf.drop (lMf - rB r + (rB r - hl h - 1))).take (hl h) = tasteS h r Mf := by subst hlMf; rfl
        rw [hS1] at hr18 hl18
        have hS := hl18
        refine v_aload_n hX 3 rfl (atL dAX3_tasteFrom_0 46 rfl) ?_
        refine gf_X3_14 hX hk10 (atL dAX3_tasteFrom_0 47 rfl) ?_
        refine v_iconst hX (atL dAX3_tasteFrom_0 48 rfl) ?_
        refine v_callV hX (As := [.int (iI (0))]) (rest := []) (c_X4_at (xl X) w s18 29 (hP 1 29 (by simp [mn, tp])) (hA18 29) 0 ⟨by omega, by omega⟩) lk_X3_75 (hP 1 29 (by simp [mn, tp])) (fun _ => rfl) rfl rfl rfl (by rw [hR]; exact ⟨Nat.le_of_ble_eq_true rfl, Nat.le_of_ble_eq_true rfl⟩) ⟨Nat.zero_le _, Nat.zero_le _⟩ rfl (Nat.le_of_ble_eq_true rfl) (atL dAX3_tasteFrom_0 49 rfl) (fun r19 z19 g19 => ?_)
        obtain ⟨ga19, gb19⟩ := g19
        rw [gb19]
        rw [hr18_29.2] at ga19
        rw [if_pos (by omega), show (0 : Int).toNat = 0 by omega] at ga19
        subst ga19
        have hb19 := hr18_29.by.get 0
        show V X _ w _ _ s18 [.int (iI ((((tasteX h r Mf).getD 0 0 : Nat) : Int)))]
        refine v_iload_n hX 5 rfl (atL dAX3_tasteFrom_0 50 rfl) ?_
        refine v_callS hX (As := [.int (iI ((r : Int)))]) (rest := [.int (iI ((((tasteX h r Mf).getD 0 0 : Nat) : Int)))]) (c_X3_highestKept (xl X) w s18 r (by omega)) lk_X3_102 rfl (by rw [hR]; exact ⟨Nat.le_of_ble_eq_true rfl, Nat.le_of_ble_eq_true rfl⟩) ⟨Nat.zero_le _, Nat.zero_le _⟩ rfl (Nat.le_of_ble_eq_true rfl) (atL dAX3_tasteFrom_0 51 rfl) (fun rk1 zk1 gk1 => ?_)
        obtain ⟨gka1, gkb1⟩ := gk1
        rw [gkb1]
        subst gka1
        show V X _ w _ _ s18 [.int (iI (((255 / 2 ^ rS r : Nat) : Int))), .int (iI ((((tasteX h r Mf).getD 0 0 : Nat) : Int)))]
        refine v_iconst hX (atL dAX3_tasteFrom_0 52 rfl) ?_
        refine v_ixor hX (r := (iI (((255 / 2 ^ rS r : Nat) : Int))) ^^^ (iI ((-1)))) rfl (atL dAX3_tasteFrom_0 53 rfl) ?_
        have hkz := knz (a := (tasteX h r Mf).getD 0 0) (p := 2 ^ (8 - rS r)) (Nat.two_pow_pos _)
        have hkl := Nat.div_mul_le_self ((tasteX h r Mf).getD 0 0) (2 ^ (8 - rS r))
        refine v_iand hX (r := iI ((((tasteX h r Mf).getD 0 0 / 2 ^ (8 - rS r) * 2 ^ (8 - rS r) : Nat) : Int))) (knot (rS r) (rS_lt r) _ (by assumption)) (atL dAX3_tasteFrom_0 54 rfl) ?_
        obtain ⟨qq, hqq⟩ : ∃ q, (tasteX h r Mf).getD 0 0 / 2 ^ (8 - rS r) * 2 ^ (8 - rS r) = q := ⟨_, rfl⟩
        rw [hqq] at hkz hkl
        rw [hqq]
        refine v_if_eq hX ⟨by omega, by omega⟩ (tgt := 106) (atL dAX3_tasteFrom_0 55 rfl) (by decide) (fun h101 => ?_) (fun h101 => ?_)
        · refine v_aload_n hX 3 rfl (atL dAX3_tasteFrom_0 58 rfl) ?_
          refine gf_X3_32 hX hk10 (atL dAX3_tasteFrom_0 59 rfl) ?_
          refine v_iload_n hX 6 rfl (atL dAX3_tasteFrom_1 0 rfl) ?_
          refine v_aload_n hX 3 rfl (atL dAX3_tasteFrom_1 1 rfl) ?_
          refine gf_X3_23 hX hk10 (atL dAX3_tasteFrom_1 2 rfl) ?_
          refine v_iload hX 0 rfl (atL dAX3_tasteFrom_1 3 rfl) ?_
          refine v_aload_n hX 3 rfl (atL dAX3_tasteFrom_1 4 rfl) ?_
          refine gf_X3_20 hX hk10 (atL dAX3_tasteFrom_1 5 rfl) ?_
          refine v_callV hX (As := [.int (iI (h)), .ref (w.1 1 31), .int (iI (((rB r - hl h - 1 : Nat) : Int))), .ref (w.1 1 30)]) (rest := []) (c_X1_setMask (xl X) w s18 (hP 8 0 (by simp [mn, tp])) hA18 h hh 31 (hP 1 31 (by simp [mn, tp])) (by rw [hr18.2, hl18]; omega) (rB r - hl h - 1) 30 (hP 1 30 (by simp [mn, tp])) (by show _ ≤ 256; omega) (by omega) (by omega) (by omega) (by omega) (by omega)) lk_X3_61 (hP 8 0 (by simp [mn, tp])) (fun _ => rfl) rfl rfl rfl (by rw [hR]; exact ⟨Nat.le_of_ble_eq_true rfl, Nat.le_of_ble_eq_true rfl⟩) ⟨Nat.zero_le _, Nat.zero_le _⟩ rfl (Nat.le_of_ble_eq_true rfl) (atL dAX3_tasteFrom_1 6 rfl) (fun _ s20 e20 => ?_)
          obtain ⟨hr20, hB20, hf20⟩ := e20
          rw [hr18.2] at hr20
          have hl20 : (msk h (tasteS h r Mf) (rB r - hl h - 1)).length = rB r - hl h - 1 := by exact msk_len
          have hA20 := hB20
          have hr20_26 := hr18_26.fr hf20 (by simp [SM] <;> omega) (by simp [SM] <;> omega)
          have hr20_a := hr18_a.fr hf20 (by simp [SM] <;> omega) (by simp [SM] <;> omega)
          have hr20_29 := hr18_29.fr hf20 (by simp [SM] <;> omega) (by simp [SM] <;> omega)
          have hr20_31 := hr18.fr hf20 (by simp [SM] <;> omega) (by simp [SM] <;> omega)
          have hF20 := hF18.tr' (hf20.mono (by simp [SP, SM]))
          show V X _ w _ _ s20 []
          refine v_aload_n hX 3 rfl (atL dAX3_tasteFrom_1 7 rfl) ?_
          refine gf_X3_14 hX hk10 (atL dAX3_tasteFrom_1 8 rfl) ?_
          refine v_aload_n hX 3 rfl (atL dAX3_tasteFrom_1 9 rfl) ?_
          refine gf_X3_20 hX hk10 (atL dAX3_tasteFrom_1 10 rfl) ?_
          refine v_callV hX (As := [.ref (w.1 1 30)]) (rest := []) (c_X4_mixWith (xl X) w s20 29 (hP 1 29 (by simp [mn, tp])) (hA20 29) 30 (hP 1 30 (by simp [mn, tp])) (hA20 30) (by omega)) lk_X3_65 (hP 1 29 (by simp [mn, tp])) (fun _ => rfl) rfl rfl rfl (by rw [hR]; exact ⟨Nat.le_of_ble_eq_true rfl, Nat.le_of_ble_eq_true rfl⟩) ⟨Nat.zero_le _, Nat.zero_le _⟩ rfl (Nat.le_of_ble_eq_true rfl) (atL dAX3_tasteFrom_1 11 rfl) (fun _ s21 e21 => ?_)
          rw [hr20_29.2, hr20.2] at e21
          have hl21 : (mix (tasteX h r Mf) (msk h (tasteS h r Mf) (rB r - hl h - 1))).length = (rB r - hl h - 1) := by rw [mix_len, hl17]
          obtain ⟨hr21, hf21⟩ := RW_of (M := mix (tasteX h r Mf) (msk h (tasteS h r Mf) (rB r - hl h - 1))) (hA20 29) e21 (by rw [hl21]; show _ ≤ 256; omega) (mix_by hr20_29.by hr20.by)
          have hA21 := hA20.one hr21 hf21 (by simp)
          have hr21_26 := hr20_26.fr hf21 (by simp <;> omega) (by simp <;> omega)
          have hr21_a := hr20_a.fr hf21 (by simp <;> omega) (by simp <;> omega)
          have hr21_31 := hr20_31.fr hf21 (by simp <;> omega) (by simp <;> omega)
          have hr21_30 := hr20.fr hf21 (by simp <;> omega) (by simp <;> omega)
          have hF21 := hF20.tr' (hf21.mono (by simp [SP]))
          show V X _ w _ _ s21 []
          refine v_aload_n hX 3 rfl (atL dAX3_tasteFrom_1 12 rfl) ?_
          refine gf_X3_14 hX hk10 (atL dAX3_tasteFrom_1 13 rfl) ?_
          refine v_iconst hX (atL dAX3_tasteFrom_1 14 rfl) ?_
          refine v_aload_n hX 3 rfl (atL dAX3_tasteFrom_1 15 rfl) ?_
          refine gf_X3_14 hX hk10 (atL dAX3_tasteFrom_1 16 rfl) ?_
          refine v_iconst hX (atL dAX3_tasteFrom_1 17 rfl) ?_
          refine v_callV hX (As := [.int (iI (0))]) (rest := [.int (iI (0)), .ref (w.1 1 29)]) (c_X4_at (xl X) w s21 29 (hP 1 29 (by simp [mn, tp])) (hA21 29) 0 ⟨by omega, by omega⟩) lk_X3_75 (hP 1 29 (by simp [mn, tp])) (fun _ => rfl) rfl rfl rfl (by rw [hR]; exact ⟨Nat.le_of_ble_eq_true rfl, Nat.le_of_ble_eq_true rfl⟩) ⟨Nat.zero_le _, Nat.zero_le _⟩ rfl (Nat.le_of_ble_eq_true rfl) (atL dAX3_tasteFrom_1 18 rfl) (fun r22 z22 g22 => ?_)
          obtain ⟨ga22, gb22⟩ := g22
          rw [gb22]
          rw [hr21.2] at ga22
          rw [if_pos (by omega), show (0 : Int).toNat = 0 by omega] at ga22
          subst ga22
          have hb22 := hr21.by.get 0
          show V X _ w _ _ s21 [.int (iI ((((mix (tasteX h r Mf) (msk h (tasteS h r Mf) (rB r - hl h - 1))).getD 0 0 : Nat) : Int))), .int (iI (0)), .ref (w.1 1 29)]
          refine v_iload_n hX 5 rfl (atL dAX3_tasteFrom_1 19 rfl) ?_
          refine v_callS hX (As := [.int (iI ((r : Int)))]) (rest := [.int (iI ((((mix (tasteX h r Mf) (msk h (tasteS h r Mf) (rB r - hl h - 1))).getD 0 0 : Nat) : Int))), .int (iI (0)), .ref (w.1 1 29)]) (c_X3_highestKept (xl X) w s21 r (by omega)) lk_X3_102 rfl (by rw [hR]; exact ⟨Nat.le_of_ble_eq_true rfl, Nat.le_of_ble_eq_true rfl⟩) ⟨Nat.zero_le _, Nat.zero_le _⟩ rfl (Nat.le_of_ble_eq_true rfl) (atL dAX3_tasteFrom_1 20 rfl) (fun rk2 zk2 gk2 => ?_)
          obtain ⟨gka2, gkb2⟩ := gk2
          rw [gkb2]
          subst gka2
          show V X _ w _ _ s21 [.int (iI (((255 / 2 ^ rS r : Nat) : Int))), .int (iI ((((mix (tasteX h r Mf) (msk h (tasteS h r Mf) (rB r - hl h - 1))).getD 0 0 : Nat) : Int))), .int (iI (0)), .ref (w.1 1 29)]
          have hpm152 := pmod (rS r) (rS_lt r) ((mix (tasteX h r Mf) (msk h (tasteS h r Mf) (rB r - hl h - 1))).getD 0 0)
          refine v_iand hX (r := iI ((((mix (tasteX h r Mf) (msk h (tasteS h r Mf) (rB r - hl h - 1))).getD 0 0 % 2 ^ (8 - rS r) : Nat) : Int))) (kand (rS r) (rS_lt r) _ (by assumption)) (atL dAX3_tasteFrom_1 21 rfl) ?_
          refine v_callV hX (As := [.int (iI (0)), .int (iI ((((mix (tasteX h r Mf) (msk h (tasteS h r Mf) (rB r - hl h - 1))).getD 0 0 % 2 ^ (8 - rS r) : Nat) : Int)))]) (rest := []) (c_X4_put (xl X) w s21 29 (hP 1 29 (by simp [mn, tp])) (hA21 29) 0 ((((mix (tasteX h r Mf) (msk h (tasteS h r Mf) (rB r - hl h - 1))).getD 0 0 % 2 ^ (8 - rS r) : Nat) : Int)) ⟨by omega, by omega⟩) lk_X3_105 (hP 1 29 (by simp [mn, tp])) (fun _ => rfl) rfl rfl rfl (by rw [hR]; exact ⟨Nat.le_of_ble_eq_true rfl, Nat.le_of_ble_eq_true rfl⟩) ⟨Nat.zero_le _, Nat.zero_le _⟩ rfl (Nat.le_of_ble_eq_true rfl) (atL dAX3_tasteFrom_1 22 rfl) (fun _ s23 e23 => ?_)
          rw [hr21.2, if_pos ⟨by omega, by rw [hl21]; omega⟩, show (((((mix (tasteX h r Mf) (msk h (tasteS h r Mf) (rB r - hl h - 1))).getD 0 0 % 2 ^ (8 - rS r) : Nat) : Int) : Int) % 256).toNat = (mix (tasteX h r Mf) (msk h (tasteS h r Mf) (rB r - hl h - 1))).getD 0 0 % 2 ^ (8 - rS r) from (by omega), show (0 : Int).toNat = 0 from rfl] at e23
          have hl23 : ((mix (tasteX h r Mf) (msk h (tasteS h r Mf) (rB r - hl h - 1))).set 0 ((mix (tasteX h r Mf) (msk h (tasteS h r Mf) (rB r - hl h - 1))).getD 0 0 % 2 ^ (8 - rS r))).length = (rB r - hl h - 1) := by rw [List.length_set, hl21]
          obtain ⟨hr23, hf23⟩ := RW_of (M := (mix (tasteX h r Mf) (msk h (tasteS h r Mf) (rB r - hl h - 1))).set 0 ((mix (tasteX h r Mf) (msk h (tasteS h r Mf) (rB r - hl h - 1))).getD 0 0 % 2 ^ (8 - rS r))) (hA21 29) e23 (by rw [hl23]; show _ ≤ 256; omega) (BY_set hr21.by (by omega))
          have hA23 := hA21.one hr23 hf23 (by simp)
          have hr23_26 := hr21_26.fr hf23 (by simp <;> omega) (by simp <;> omega)
          have hr23_a := hr21_a.fr hf23 (by simp <;> omega) (by simp <;> omega)
          have hr23_31 := hr21_31.fr hf23 (by simp <;> omega) (by simp <;> omega)
          have hr23_30 := hr21_30.fr hf23 (by simp <;> omega) (by simp <;> omega)
          have hF23 := hF21.tr' (hf23.mono (by simp [SP]))
          show V X _ w _ _ s23 []
          have hD : (mix (tasteX h r Mf) (msk h (tasteS h r Mf) (rB r - hl h - 1))).set 0 ((mix (tasteX h r Mf) (msk h (tasteS h r Mf) (rB r - hl h - 1))).getD 0 0 % 2 ^ (8 - rS r)) = tasteD h r Mf := rfl
          rw [hD] at hr23 hl23
          refine v_iload hX 0 rfl (atL dAX3_tasteFrom_1 23 rfl) ?_
          refine v_iload hX 8 rfl (atL dAX3_tasteFrom_1 24 rfl) ?_
          refine v_isub hX (iI_sub _ _) (atL dAX3_tasteFrom_1 25 rfl) ?_
          refine v_iconst hX (atL dAX3_tasteFrom_1 26 rfl) ?_
          refine v_isub hX (iI_sub _ _) (atL dAX3_tasteFrom_1 27 rfl) ?_
          rw [show (((((rB r - hl h - 1 : Nat) : Int)) - ((x : Int))) - 1) = ((rB r - hl h - 1 - x - 1 : Nat) : Int) from (by omega)]
          refine v_istore hX (lv' := [(9, .int (iI (((rB r - hl h - 1 - x - 1 : Nat) : Int)))), (8, .int (iI (((rB r - hl h - 1 : Nat) : Int)))), (7, .int (iI (((lMf - rB r : Nat) : Int)))), (6, .int (iI ((hl h : Int)))), (0, .ref (w.1 10 0)), (1, .ref (w.1 1 26)), (2, .int (iI ((r : Int)))), (3, .int (iI (h))), (4, .ref (w.1 1 a)), (5, .int (iI ((x : Int))))]) (Nat.le_of_ble_eq_true rfl) rfl (atL dAX3_tasteFrom_1 28 rfl) ?_
          refine v_aload_n hX 4 rfl (atL dAX3_tasteFrom_1 29 rfl) ?_
          refine gf_X3_14 hX hk10 (atL dAX3_tasteFrom_1 30 rfl) ?_
          refine v_iconst hX (atL dAX3_tasteFrom_1 31 rfl) ?_
          refine v_callV hX (As := [.int (iI (0))]) (rest := []) (c_X4_zerosFrom (xl X) w s23 29 (hP 1 29 (by simp [mn, tp])) (hA23 29) 0 (by rw [hr23.2, hl23]; omega)) lk_X3_72 (hP 1 29 (by simp [mn, tp])) (fun _ => rfl) rfl rfl rfl (by rw [hR]; exact ⟨Nat.le_of_ble_eq_true rfl, Nat.le_of_ble_eq_true rfl⟩) ⟨Nat.zero_le _, Nat.zero_le _⟩ rfl (Nat.le_of_ble_eq_true rfl) (atL dAX3_tasteFrom_1 32 rfl) (fun r24 z24 g24 => ?_)
          obtain ⟨ga24, gb24⟩ := g24
          rw [gb24]
          rw [hr23.2] at ga24
          subst ga24
          have hb24 := run_le (p := fun x => decide (x = 0)) (L := tasteD h r Mf) (k := 0)
          rw [hl23] at hb24
          show V X _ w _ _ s23 [.int (iI (((run (fun x => decide (x = 0)) (tasteD h r Mf) 0 : Nat) : Int)))]
          refine v_iload hX 0 rfl (atL dAX3_tasteFrom_1 33 rfl) ?_
          obtain ⟨nn, hnn⟩ : ∃ q, run (fun x => decide (x = 0)) (tasteD h r Mf) 0 = q := ⟨_, rfl⟩
          have hbn : nn ≤ rB r - hl h - 1 - 0 := by rw [← hnn]; assumption
          rw [hnn]
          refine v_icmp_ne hX ⟨by omega, by omega⟩ ⟨by omega, by omega⟩ (tgt := 191) (atL dAX3_tasteFrom_1 34 rfl) (by decide) (fun h175 => ?_) (fun h175 => ?_)
          · refine v_iconst hX (atL dAX3_tasteFrom_1 41 rfl) ?_
            exact v_zret hX (by decide +kernel) (atL dAX3_tasteFrom_1 42 rfl) (hret _ _ ⟨tf_n (fun q => absurd q.2.2.2.1 (by rw [hnn]; omega)), hA23, hF23⟩)
          · refine v_aload_n hX 4 rfl (atL dAX3_tasteFrom_1 35 rfl) ?_
            refine gf_X3_14 hX hk10 (atL dAX3_tasteFrom_1 36 rfl) ?_
            refine v_iload hX 0 rfl (atL dAX3_tasteFrom_1 37 rfl) ?_
            refine v_callV hX (As := [.int (iI (((rB r - hl h - 1 - x - 1 : Nat) : Int)))]) (rest := []) (c_X4_at (xl X) w s23 29 (hP 1 29 (by simp [mn, tp])) (hA23 29) (((rB r - hl h - 1 - x - 1 : Nat) : Int)) ⟨by omega, by omega⟩) lk_X3_75 (hP 1 29 (by simp [mn, tp])) (fun _ => rfl) rfl rfl rfl (by rw [hR]; exact ⟨Nat.le_of_ble_eq_true rfl, Nat.le_of_ble_eq_true rfl⟩) ⟨Nat.zero_le _, Nat.zero_le _⟩ rfl (Nat.le_of_ble_eq_true rfl) (atL dAX3_tasteFrom_1 38 rfl) (fun r25 z25 g25 => ?_)
            obtain ⟨ga25, gb25⟩ := g25
            rw [gb25]
            rw [hr23.2] at ga25
            rw [if_pos (by omega), show (((rB r - hl h - 1 - x - 1 : Nat) : Int) : Int).toNat = rB r - hl h - 1 - x - 1 by omega] at ga25
            subst ga25
            have hb25 := hr23.by.get (rB r - hl h - 1 - x - 1)
            show V X _ w _ _ s23 [.int (iI ((((tasteD h r Mf).getD (rB r - hl h - 1 - x - 1) 0 : Nat) : Int)))]
            refine v_iconst hX (atL dAX3_tasteFrom_1 39 rfl) ?_
            refine v_icmp_eq hX ⟨by omega, by omega⟩ ⟨by omega, by omega⟩ (tgt := 193) (atL dAX3_tasteFrom_1 40 rfl) (by decide) (fun h188 => ?_) (fun h188 => ?_)
            · refine v_aload_n hX 4 rfl (atL dAX3_tasteFrom_1 43 rfl) ?_
              refine gf_X3_20 hX hk10 (atL dAX3_tasteFrom_1 44 rfl) ?_
              refine v_aload_n hX 4 rfl (atL dAX3_tasteFrom_1 45 rfl) ?_
              refine gf_X3_14 hX hk10 (atL dAX3_tasteFrom_1 46 rfl) ?_
              refine v_iload hX 0 rfl (atL dAX3_tasteFrom_1 47 rfl) ?_
              refine v_iconst hX (atL dAX3_tasteFrom_1 48 rfl) ?_
              refine v_iadd hX (iI_add _ _) (atL dAX3_tasteFrom_1 49 rfl) ?_
              rw [show ((((rB r - hl h - 1 - x - 1 : Nat) : Int)) + 1) = ((rB r - hl h - 1 - x - 1 + 1 : Nat) : Int) from (by omega)]
              refine v_iload hX 9 rfl (atL dAX3_tasteFrom_1 50 rfl) ?_
              refine v_callV hX (As := [.ref (w.1 1 29), .int (iI (((rB r - hl h - 1 - x - 1 + 1 : Nat) : Int))), .int (iI ((x : Int)))]) (rest := []) (c_X4_takePart (xl X) w s23 30 (hP 1 30 (by simp [mn, tp])) (hA23 30) 29 (hP 1 29 (by simp [mn, tp])) (hA23 29) (by omega) (rB r - hl h - 1 - x - 1 + 1) x (by rw [hr23.2, hl23]; omega) (by show _ ≤ 256; omega)) lk_X3_68 (hP 1 30 (by simp [mn, tp])) (fun _ => rfl) rfl rfl rfl (by rw [hR]; exact ⟨Nat.le_of_ble_eq_true rfl, Nat.le_of_ble_eq_true rfl⟩) ⟨Nat.zero_le _, Nat.zero_le _⟩ rfl (Nat.le_of_ble_eq_true rfl) (atL dAX3_tasteFrom_1 51 rfl) (fun _ s26 e26 => ?_)
              rw [hr23.2] at e26
              have hl26 : (((tasteD h r Mf).drop (rB r - hl h - 1 - x - 1 + 1)).take x).length = x := by rw [List.length_take, List.length_drop, hl23]; omega
              obtain ⟨hr26, hf26⟩ := RW_of (M := ((tasteD h r Mf).drop (rB r - hl h - 1 - x - 1 + 1)).take x) (hA23 30) e26 (by rw [hl26]; show _ ≤ 256; omega) (hr23.by.drop.take)
              have hA26 := hA23.one hr26 hf26 (by simp)
              have hr26_26 := hr23_26.fr hf26 (by simp <;> omega) (by simp <;> omega)
              have hr26_a := hr23_a.fr hf26 (by simp <;> omega) (by simp <;> omega)
              have hr26_29 := hr23.fr hf26 (by simp <;> omega) (by simp <;> omega)
              have hr26_31 := hr23_31.fr hf26 (by simp <;> omega) (by simp <;> omega)
              have hF26 := hF23.tr' (hf26.mono (by simp [SP]))
              show V X _ w _ _ s26 []
              refine v_aload_n hX 4 rfl (atL dAX3_tasteFrom_1 52 rfl) ?_
              refine v_iload_n hX 7 rfl (atL dAX3_tasteFrom_1 53 rfl) ?_
              refine v_aload hX 8 rfl (atL dAX3_tasteFrom_1 54 rfl) ?_
              refine v_aload_n hX 4 rfl (atL dAX3_tasteFrom_1 55 rfl) ?_
              refine gf_X3_20 hX hk10 (atL dAX3_tasteFrom_1 56 rfl) ?_
              refine v_callV hX (As := [.int (iI (h)), .ref (w.1 1 a), .ref (w.1 1 30)]) (rest := []) (c_X3_setProof (xl X) w s26 hk10 hA26 h hh a hav Ma hr26_a 30 (hP 1 30 (by simp [mn, tp])) (((tasteD h r Mf).drop (rB r - hl h - 1 - x - 1 + 1)).take x) hr26 (by omega) (by rw [hl26]; omega) (by omega) (by omega)) lk_X3_99 hk10 (fun _ => rfl) rfl rfl rfl (by rw [hR]; exact ⟨Nat.le_of_ble_eq_true rfl, Nat.le_of_ble_eq_true rfl⟩) ⟨Nat.zero_le _, Nat.zero_le _⟩ rfl (Nat.le_of_ble_eq_true rfl) (atL dAX3_tasteFrom_1 57 rfl) (fun _ s27 e27 => ?_)
              obtain ⟨hr27, hB27, hf27⟩ := e27
              have hl27 : (prf h Ma (((tasteD h r Mf).drop (rB r - hl h - 1 - x - 1 + 1)).take x)).length = hl h := by exact sha_len
              have hA27 := hB27
              have hr27_26 := hr26_26.fr hf27 (by simp [SPP] <;> omega) (by simp [SPP] <;> omega)
              have hr27_a := hr26_a.fr hf27 (by simp [SPP] <;> omega) (by simp [SPP] <;> omega)
              have hr27_29 := hr26_29.fr hf27 (by simp [SPP] <;> omega) (by simp [SPP] <;> omega)
              have hr27_31 := hr26_31.fr hf27 (by simp [SPP] <;> omega) (by simp [SPP] <;> omega)
              have hr27_30 := hr26.fr hf27 (by simp [SPP] <;> omega) (by simp [SPP] <;> omega)
              have hF27 := hF26.tr' (hf27.mono (by simp [SP, SPP]))
              show V X _ w _ _ s27 []
              refine v_aload_n hX 4 rfl (atL dAX3_tasteFrom_1 58 rfl) ?_
              refine gf_X3_23 hX hk10 (atL dAX3_tasteFrom_1 59 rfl) ?_
              refine v_aload_n hX 4 rfl (atL dAX3_tasteFrom_2 0 rfl) ?_
              refine gf_X3_26 hX hk10 (atL dAX3_tasteFrom_2 1 rfl) ?_
              refine v_iconst hX (atL dAX3_tasteFrom_2 2 rfl) ?_
              refine v_callV hX (As := [.ref (w.1 1 32), .int (iI (0))]) (rest := []) (c_X4_holds (xl X) w s27 31 (hP 1 31 (by simp [mn, tp])) (hA27 31) 32 (hP 1 32 (by simp [mn, tp])) (hA27 32) (by omega)) lk_X3_78 (hP 1 31 (by simp [mn, tp])) (fun _ => rfl) rfl rfl rfl (by rw [hR]; exact ⟨Nat.le_of_ble_eq_true rfl, Nat.le_of_ble_eq_true rfl⟩) ⟨Nat.zero_le _, Nat.zero_le _⟩ rfl (Nat.le_of_ble_eq_true rfl) (atL dAX3_tasteFrom_2 3 rfl) (fun r28 z28 g28 => ?_)
              obtain ⟨ga28, gb28⟩ := g28
              rw [gb28]
              rw [hr27_31.2] at ga28
              rw [hr27.2] at ga28
              have gc28 : tf r28 ((tasteS h r Mf).take (prf h Ma (((tasteD h r Mf).drop (rB r - hl h - 1 - x - 1 + 1)).take x)).length = prf h Ma (((tasteD h r Mf).drop (rB r - hl h - 1 - x - 1 + 1)).take x)) := by rw [ga28]; split; exact tf_p (by assumption); exact tf_n (by assumption)
              have gd28 : r28 = 0 ∨ r28 = 1 := by rw [ga28]; split <;> simp
              show V X _ w _ _ s27 [.int (iI (r28))]
              exact v_zret hX (tf.zr gc28) (atL dAX3_tasteFrom_2 4 rfl) (hret _ _ ⟨gc28.iff ⟨fun q => ⟨fun g => by have := h38; omega, by rw [hlMf]; omega, hkz.mp (by omega), by rw [hnn]; omega, by omega, by rw [prf_len, List.take_of_length_le (by rw [hS]; exact Nat.le_refl _)] at q; exact q⟩, fun q => by rw [prf_len, List.take_of_length_le (by rw [hS]; exact Nat.le_refl _)]; exact q.2.2.2.2.2⟩, hA27, hF27⟩)
            · refine v_iconst hX (atL dAX3_tasteFrom_1 41 rfl) ?_
              exact v_zret hX (by decide +kernel) (atL dAX3_tasteFrom_1 42 rfl) (hret _ _ ⟨tf_n (fun q => absurd q.2.2.2.2.1 (by omega)), hA23, hF23⟩)
        · refine v_iconst hX (atL dAX3_tasteFrom_0 56 rfl) ?_
          exact v_zret hX (by decide +kernel) (atL dAX3_tasteFrom_0 57 rfl) (hret _ _ ⟨tf_n (fun q => absurd (hkz.mpr q.2.2.1) (by omega)), hA18, hF18⟩)
      · refine v_iconst hX (atL dAX3_tasteFrom_0 30 rfl) ?_
        exact v_zret hX (by decide +kernel) (atL dAX3_tasteFrom_0 31 rfl) (hret _ _ ⟨tf_n (fun q => absurd q.2.1 (by rw [hlMf]; omega)), hA, (Fr.rf : Fr SP σ σ)⟩)
