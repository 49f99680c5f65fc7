set_option maxHeartbeats 1000000 in
set_option maxRecDepth 100000 in
theorem c_X3_emptyFrom (l : Launch) (w : Wl) (σ : St) (hk10 : w.2 10 0) (v25 : w.2 1 25) (v26 : w.2 1 26) (hA : AR σ) (Mf : List Nat) (hf : RW σ 26 Mf) (hfl : 11 ≤ Mf.length) : Cn l yX3_emptyFrom cX3_emptyFrom 5 (Option.some Jvm.ClassFile.FieldType.boolean) 3 68 wI [.ref (w.1 10 0), .ref (w.1 1 26), .ref (w.1 1 25)] w σ (fun a σ' => ((a = 1 ∧ emptyOK Mf ∧ RW σ' 25 (emptyL Mf)) ∨ (a = 0 ∧ ¬ emptyOK Mf)) ∧ AR σ' ∧ Fr SP σ σ') := by
  refine Cn.of (own := RX3) (lv := [(0, .ref (w.1 10 0)), (1, .ref (w.1 1 26)), (2, .ref (w.1 1 25))]) (by decide +kernel) rfl (Nat.le_of_ble_eq_true rfl) rfl (fun X hX hxl hR hcl hret => ?_)
  subst hxl
  have hP : ∀ c q, (c, q) ∈ mn σ 10 0 → w.2 c q := fun c q h => hcl 10 0 hk10 (c, q) h
  obtain ⟨lMf, hlMf⟩ : ∃ q, Mf.length = q := ⟨_, rfl⟩
  have hqMf := hf.le
  rw [hlMf] at hqMf
  have hcMf : Mf.length ≤ 256 := hf.cap
  rw [hlMf] at hcMf
  rw [hlMf] at hfl
  refine v_aload_n hX 1 rfl (atL dAX3_emptyFrom_0 0 rfl) ?_
  refine v_iconst hX (atL dAX3_emptyFrom_0 1 rfl) ?_
  refine v_callV hX (As := [.int (iI (2))]) (rest := []) (c_X4_othersFrom (xl X) w σ 26 v26 (hA 26) 2 (by rw [hf.2, hlMf]; omega)) lk_X3_82 v26 (fun _ => rfl) rfl rfl rfl (by rw [hR]; exact ⟨Nat.le_of_ble_eq_true rfl, Nat.le_of_ble_eq_true rfl⟩) ⟨Nat.zero_le _, Nat.zero_le _⟩ rfl (Nat.le_of_ble_eq_true rfl) (atL dAX3_emptyFrom_0 2 rfl) (fun r1 z1 g1 => ?_)
  obtain ⟨ga1, gb1⟩ := g1
  rw [gb1]
  rw [hf.2] at ga1
  subst ga1
  have hb1 := run_le (p := fun x => decide (x ≠ 0)) (L := Mf) (k := 2)
  rw [hlMf] at hb1
  show V X _ w _ _ σ [.int (iI (((run (fun x => decide (x ≠ 0)) (Mf) 2 : Nat) : Int)))]
  obtain ⟨nn, hnn⟩ : ∃ q, run (fun x => decide (x ≠ 0)) (Mf) 2 = q := ⟨_, rfl⟩
  rw [hnn] at hb1
  rw [hnn]
  refine v_istore_n hX (i := 3) rfl (lv' := [(3, .int (iI ((nn : Int)))), (0, .ref (w.1 10 0)), (1, .ref (w.1 1 26)), (2, .ref (w.1 1 25))]) (Nat.le_of_ble_eq_true rfl) rfl (atL dAX3_emptyFrom_0 3 rfl) ?_
  refine v_iconst hX (atL dAX3_emptyFrom_0 4 rfl) ?_
  refine v_iload_n hX 0 rfl (atL dAX3_emptyFrom_0 5 rfl) ?_
  refine v_iadd hX (iI_add _ _) (atL dAX3_emptyFrom_0 6 rfl) ?_
  rw [show (2 + ((nn : Int))) = ((2 + nn : Nat) : Int) from (by omega)]
  refine v_istore hX (lv' := [(4, .int (iI (((2 + nn : Nat) : Int)))), (3, .int (iI ((nn : Int)))), (0, .ref (w.1 10 0)), (1, .ref (w.1 1 26)), (2, .ref (w.1 1 25))]) (Nat.le_of_ble_eq_true rfl) rfl (atL dAX3_emptyFrom_0 7 rfl) ?_
  refine v_aload_n hX 3 rfl (atL dAX3_emptyFrom_0 8 rfl) ?_
  refine v_iconst hX (atL dAX3_emptyFrom_0 9 rfl) ?_
  refine v_callV hX (As := [.int (iI (0))]) (rest := []) (c_X4_at (xl X) w σ 26 v26 (hA 26) 0 ⟨by omega, by omega⟩) lk_X3_75 v26 (fun _ => rfl) rfl rfl rfl (by rw [hR]; exact ⟨Nat.le_of_ble_eq_true rfl, Nat.le_of_ble_eq_true rfl⟩) ⟨Nat.zero_le _, Nat.zero_le _⟩ rfl (Nat.le_of_ble_eq_true rfl) (atL dAX3_emptyFrom_0 10 rfl) (fun r2 z2 g2 => ?_)
  obtain ⟨ga2, gb2⟩ := g2
  rw [gb2]
  rw [hf.2] at ga2
  rw [if_pos (by omega), show (0 : Int).toNat = 0 by omega] at ga2
  subst ga2
  have hb2 := hf.by.get 0
  show V X _ w _ _ σ [.int (iI ((((Mf).getD 0 0 : Nat) : Int)))]
  refine v_if_ne hX ⟨by omega, by omega⟩ (tgt := 43) (atL dAX3_emptyFrom_0 11 rfl) (by decide) (fun h16 => ?_) (fun h16 => ?_)
  · refine v_iconst hX (atL dAX3_emptyFrom_0 24 rfl) ?_
    subst hnn
    exact v_zret hX (by decide +kernel) (atL dAX3_emptyFrom_0 25 rfl) (hret _ _ ⟨Or.inr ⟨rfl, by unfold emptyOK emptyN; rw [hlMf]; omega⟩, hA, (Fr.rf : Fr SP σ σ)⟩)
  · refine v_aload_n hX 3 rfl (atL dAX3_emptyFrom_0 12 rfl) ?_
    refine v_iconst hX (atL dAX3_emptyFrom_0 13 rfl) ?_
    refine v_callV hX (As := [.int (iI (1))]) (rest := []) (c_X4_at (xl X) w σ 26 v26 (hA 26) 1 ⟨by omega, by omega⟩) lk_X3_75 v26 (fun _ => rfl) rfl rfl rfl (by rw [hR]; exact ⟨Nat.le_of_ble_eq_true rfl, Nat.le_of_ble_eq_true rfl⟩) ⟨Nat.zero_le _, Nat.zero_le _⟩ rfl (Nat.le_of_ble_eq_true rfl) (atL dAX3_emptyFrom_0 14 rfl) (fun r3 z3 g3 => ?_)
    obtain ⟨ga3, gb3⟩ := g3
    rw [gb3]
    rw [hf.2] at ga3
    rw [if_pos (by omega), show (1 : Int).toNat = 1 by omega] at ga3
    subst ga3
    have hb3 := hf.by.get 1
    show V X _ w _ _ σ [.int (iI ((((Mf).getD 1 0 : Nat) : Int)))]
    refine v_iconst hX (atL dAX3_emptyFrom_0 15 rfl) ?_
    refine v_icmp_ne hX ⟨by omega, by omega⟩ ⟨by omega, by omega⟩ (tgt := 43) (atL dAX3_emptyFrom_0 16 rfl) (by decide) (fun h25 => ?_) (fun h25 => ?_)
    · refine v_iconst hX (atL dAX3_emptyFrom_0 24 rfl) ?_
      subst hnn
      exact v_zret hX (by decide +kernel) (atL dAX3_emptyFrom_0 25 rfl) (hret _ _ ⟨Or.inr ⟨rfl, by unfold emptyOK emptyN; rw [hlMf]; omega⟩, hA, (Fr.rf : Fr SP σ σ)⟩)
    · refine v_iload_n hX 1 rfl (atL dAX3_emptyFrom_0 17 rfl) ?_
      refine v_bipush hX (by decide +kernel) (atL dAX3_emptyFrom_0 18 rfl) ?_
      refine v_icmp_lt hX ⟨by omega, by omega⟩ ⟨by omega, by omega⟩ (tgt := 43) (atL dAX3_emptyFrom_0 19 rfl) (by decide) (fun h31 => ?_) (fun h31 => ?_)
      · refine v_iconst hX (atL dAX3_emptyFrom_0 24 rfl) ?_
        subst hnn
        exact v_zret hX (by decide +kernel) (atL dAX3_emptyFrom_0 25 rfl) (hret _ _ ⟨Or.inr ⟨rfl, by unfold emptyOK emptyN; rw [hlMf]; omega⟩, hA, (Fr.rf : Fr SP σ σ)⟩)
      · refine v_aload_n hX 3 rfl (atL dAX3_emptyFrom_0 20 rfl) ?_
        refine v_iload hX 0 rfl (atL dAX3_emptyFrom_0 21 rfl) ?_
        refine v_callV hX (As := [.int (iI (((2 + nn : Nat) : Int)))]) (rest := []) (c_X4_has (xl X) w σ 26 v26 (hA 26) (((2 + nn : Nat) : Int)) ⟨by omega, by omega⟩) lk_X3_85 v26 (fun _ => rfl) rfl rfl rfl (by rw [hR]; exact ⟨Nat.le_of_ble_eq_true rfl, Nat.le_of_ble_eq_true rfl⟩) ⟨Nat.zero_le _, Nat.zero_le _⟩ rfl (Nat.le_of_ble_eq_true rfl) (atL dAX3_emptyFrom_0 22 rfl) (fun r4 z4 g4 => ?_)
        obtain ⟨ga4, gb4⟩ := g4
        rw [gb4]
        rw [hf.2] at ga4
        have gc4 : (r4 = 1 ∧ (0 ≤ (((2 + nn : Nat) : Int)) ∧ (((2 + nn : Nat) : Int)) < ((lMf : Nat) : Int))) ∨ (r4 = 0 ∧ ¬ (0 ≤ (((2 + nn : Nat) : Int)) ∧ (((2 + nn : Nat) : Int)) < ((lMf : Nat) : Int))) := by rw [ga4, hlMf]; split <;> simp_all
        show V X _ w _ _ σ [.int (iI (r4))]
        refine v_if_ne hX ⟨by omega, by omega⟩ (tgt := 45) (atL dAX3_emptyFrom_0 23 rfl) (by decide) (fun h40 => ?_) (fun h40 => ?_)
        · have hok : emptyOK Mf := by unfold emptyOK emptyN; rw [hlMf, hnn]; omega
          refine v_aload_n hX 4 rfl (atL dAX3_emptyFrom_0 26 rfl) ?_
          refine v_aload_n hX 3 rfl (atL dAX3_emptyFrom_0 27 rfl) ?_
          refine v_iload hX 0 rfl (atL dAX3_emptyFrom_0 28 rfl) ?_
          refine v_iconst hX (atL dAX3_emptyFrom_0 29 rfl) ?_
          refine v_iadd hX (iI_add _ _) (atL dAX3_emptyFrom_0 30 rfl) ?_
          rw [show ((((2 + nn : Nat) : Int)) + 1) = ((2 + nn + 1 : Nat) : Int) from (by omega)]
          refine v_aload_n hX 3 rfl (atL dAX3_emptyFrom_0 31 rfl) ?_
          refine gf_X3_42 hX (v := ((lMf : Nat) : Int)) ((hf.len.trans (by rw [hlMf]))) v26 (atL dAX3_emptyFrom_0 32 rfl) ?_
          refine v_iload hX 0 rfl (atL dAX3_emptyFrom_0 33 rfl) ?_
          refine v_isub hX (iI_sub _ _) (atL dAX3_emptyFrom_0 34 rfl) ?_
          refine v_iconst hX (atL dAX3_emptyFrom_0 35 rfl) ?_
          refine v_isub hX (iI_sub _ _) (atL dAX3_emptyFrom_0 36 rfl) ?_
          rw [show (((((lMf : Nat) : Int)) - (((2 + nn : Nat) : Int))) - 1) = ((lMf - (2 + nn) - 1 : Nat) : Int) from (by omega)]
          refine v_callV hX (As := [.ref (w.1 1 26), .int (iI (((2 + nn + 1 : Nat) : Int))), .int (iI (((lMf - (2 + nn) - 1 : Nat) : Int)))]) (rest := []) (c_X4_takePart (xl X) w σ 25 v25 (hA 25) 26 v26 (hA 26) (by omega) (2 + nn + 1) (lMf - (2 + nn) - 1) (by rw [hf.2, hlMf]; omega) (by show _ ≤ 256; omega)) lk_X3_68 v25 (fun _ => rfl) rfl rfl rfl (by rw [hR]; exact ⟨Nat.le_of_ble_eq_true rfl, Nat.le_of_ble_eq_true rfl⟩) ⟨Nat.zero_le _, Nat.zero_le _⟩ rfl (Nat.le_of_ble_eq_true rfl) (atL dAX3_emptyFrom_0 37 rfl) (fun _ s5 e5 => ?_)
          rw [hf.2] at e5
          have hl5 : ((Mf.drop (2 + nn + 1)).take (lMf - (2 + nn) - 1)).length = (lMf - (2 + nn) - 1) := by rw [List.length_take, List.length_drop, hlMf]; omega
          obtain ⟨hr5, hf5⟩ := RW_of (M := (Mf.drop (2 + nn + 1)).take (lMf - (2 + nn) - 1)) (hA 25) e5 (by rw [hl5]; show _ ≤ 256; omega) (hf.by.drop.take)
          have hA5 := hA.one hr5 hf5 (by simp)
          have hr5_26 := hf.fr hf5 (by simp <;> omega) (by simp <;> omega)
          have hF5 := (Fr.rf : Fr SP σ σ).tr' (hf5.mono (by simp [SP]))
          show V X _ w _ _ s5 []
          refine v_iconst hX (atL dAX3_emptyFrom_0 38 rfl) ?_
          subst hnn
          exact v_zret hX (by decide +kernel) (atL dAX3_emptyFrom_0 39 rfl) (hret _ _ ⟨Or.inl ⟨rfl, hok, by subst hlMf; exact hr5⟩, hA5, hF5⟩)
        · refine v_iconst hX (atL dAX3_emptyFrom_0 24 rfl) ?_
          subst hnn
          exact v_zret hX (by decide +kernel) (atL dAX3_emptyFrom_0 25 rfl) (hret _ _ ⟨Or.inr ⟨rfl, by unfold emptyOK emptyN; rw [hlMf]; omega⟩, hA, (Fr.rf : Fr SP σ σ)⟩)

set_option maxHeartbeats 1000000 in
set_option maxRecDepth 100000 in
theorem c_X3_signIn (l : Launch) (w : Wl) (σ : St) (hk10 : w.2 10 0) (v25 : w.2 1 25) (hA : AR σ) (k : Nat) (hk : k ≤ 256) (h : Int) (hh : rI h) (a : Nat) (hav : w.2 1 a) (ha2 : a < 24) (Ma : List Nat) (ha : RW σ a Ma) (hfit : 30 + hl h ≤ k) : Cn l yX3_signIn cX3_signIn 6 none 4 95 wN [.ref (w.1 10 0), .ref (w.1 1 25), .int (iI ((k : Int))), .int (iI (h)), .ref (w.1 1 a)] w σ (fun _ σ' => RW σ' 25 (signL h k Ma) ∧ AR σ' ∧ Fr SP σ σ') := by
  refine Cn.of (own := RX3) (lv := [(0, .ref (w.1 10 0)), (1, .ref (w.1 1 25)), (2, .int (iI ((k : Int)))), (3, .int (iI (h))), (4, .ref (w.1 1 a))]) (by decide +kernel) rfl (Nat.le_of_ble_eq_true rfl) rfl (fun X hX hxl hR hcl hret => ?_)
  subst hxl
  have hP : ∀ c q, (c, q) ∈ mn σ 10 0 → w.2 c q := fun c q h => hcl 10 0 hk10 (c, q) h
  have hll := hl_le h
  have hlg := hl_ge h
  obtain ⟨lMa, hlMa⟩ : ∃ q, Ma.length = q := ⟨_, rfl⟩
  have hqMa := ha.le
  rw [hlMa] at hqMa
  have l1 : ∀ (d j : Nat) (s : St), j + d = 19 → RW s 25 ([0] ++ [1] ++ List.replicate (k - 3 - 19 - hl h) 255 ++ [0] ++ (nam h).take j) → RW s a Ma → AR s → Fr SP σ s → V X (0, 0) w 41 [(5, .int (iI ((j : Int)))), (0, .ref (w.1 10 0)), (1, .ref (w.1 1 25)), (2, .int (iI ((k : Int)))), (3, .int (iI (h))), (4, .ref (w.1 1 a))] s [] := by
    intro d
    induction d with
    | zero =>
      intro j s hj hrz haa hAz hFz
      obtain rfl : j = 19 := by omega
      have hlz : ([0] ++ [1] ++ List.replicate (k - 3 - 19 - hl h) 255 ++ [0] ++ (nam h).take 19).length = k - hl h - 19 + 19 := by simp only [List.length_append, List.length_take, nam_len, List.length_replicate, List.length_cons, List.length_nil]; omega
      refine v_iload hX 0 rfl (atL dAX3_signIn_0 25 rfl) ?_
      refine v_bipush hX (by decide +kernel) (atL dAX3_signIn_0 26 rfl) ?_
      refine v_icmp_ge hX ⟨by omega, by omega⟩ ⟨by omega, by omega⟩ (tgt := 77) (atL dAX3_signIn_0 27 rfl) (by decide) (fun h45 => ?_) (fun h45 => absurd h45 (by omega))
      refine v_aload_n hX 1 rfl (atL dAX3_signIn_0 41 rfl) ?_
      refine gf_X3_32 hX hk10 (atL dAX3_signIn_0 42 rfl) ?_
      refine v_iload_n hX 4 rfl (atL dAX3_signIn_0 43 rfl) ?_
      refine v_aload hX 5 rfl (atL dAX3_signIn_0 44 rfl) ?_
      refine v_aload_n hX 2 rfl (atL dAX3_signIn_0 45 rfl) ?_
      refine v_callV hX (As := [.int (iI (h)), .ref (w.1 1 a), .ref (w.1 1 25)]) (rest := []) (c_X1_addDigest (xl X) w s (hP 8 0 (by simp [mn, tp])) h hh a hav (hAz a) 25 v25 (hAz 25) (by rw [hrz.2, hlz]; show _ ≤ 256; omega)) lk_X3_46 (hP 8 0 (by simp [mn, tp])) (fun _ => rfl) rfl rfl rfl (by rw [hR]; exact ⟨Nat.le_of_ble_eq_true rfl, Nat.le_of_ble_eq_true rfl⟩) ⟨Nat.zero_le _, Nat.zero_le _⟩ rfl (Nat.le_of_ble_eq_true rfl) (atL dAX3_signIn_0 46 rfl) (fun _ s1 e1 => ?_)
      obtain ⟨hr1, hf1⟩ := e1
      rw [hrz.2, haa.2] at hr1
      have hl1 : ([0] ++ [1] ++ List.replicate (k - 3 - 19 - hl h) 255 ++ [0] ++ (nam h).take 19 ++ sha h Ma).length = k - hl h - 19 + 19 + hl h := by rw [List.length_append, sha_len, hlz]
      have hA1 := hAz.one hr1 hf1 (by simp)
      have hr1_a := haa.fr hf1 (by simp <;> omega) (by simp <;> omega)
      have hF1 := hFz.tr' (hf1.mono (by simp [SP]))
      show V X _ w _ _ s1 []
      exact v_vret hX (atL dAX3_signIn_0 47 rfl) (hret () _ ⟨by have q := hr1; rw [List.take_of_length_le (by rw [nam_len]; omega)] at q; exact q, hA1, hF1⟩)
    | succ d ih =>
      intro j s hj hrz haa hAz hFz
      have hlz : ([0] ++ [1] ++ List.replicate (k - 3 - 19 - hl h) 255 ++ [0] ++ (nam h).take j).length = k - hl h - 19 + j := by simp only [List.length_append, List.length_take, nam_len, List.length_replicate, List.length_cons, List.length_nil]; omega
      refine v_iload hX 0 rfl (atL dAX3_signIn_0 25 rfl) ?_
      refine v_bipush hX (by decide +kernel) (atL dAX3_signIn_0 26 rfl) ?_
      refine v_icmp_ge hX ⟨by omega, by omega⟩ ⟨by omega, by omega⟩ (tgt := 77) (atL dAX3_signIn_0 27 rfl) (by decide) (fun h45 => absurd h45 (by omega)) (fun h45 => ?_)
      refine v_aload_n hX 2 rfl (atL dAX3_signIn_0 28 rfl) ?_
      refine v_iload_n hX 4 rfl (atL dAX3_signIn_0 29 rfl) ?_
      have hnb := (nam_by (h := h)).get j
      refine v_if_ne hX hh (tgt := 62) (atL dAX3_signIn_0 30 rfl) (by decide) (fun h50 => ?_) (fun h50 => ?_)
      · refine v_gets hX 5 (by decide) wd_884 rfl (atL dAX3_signIn_0 35 rfl) (fun t62 hT62 => ?_)
        refine v_iload hX 0 rfl (atL dAX3_signIn_0 36 rfl) ?_
        refine v_sald hX j hT62 rfl (show j < 19 by omega) (by decide) rfl (atL dAX3_signIn_0 37 rfl) ?_
        refine v_callV hX (As := [.int (iI ((sT 5).getD j 0))]) (rest := []) (c_X4_add (xl X) w s 25 v25 (hAz 25) ((sT 5).getD j 0) (by rw [hrz.2, hlz]; show _ < 256; omega)) lk_X3_54 v25 (fun _ => rfl) rfl rfl rfl (by rw [hR]; exact ⟨Nat.le_of_ble_eq_true rfl, Nat.le_of_ble_eq_true rfl⟩) ⟨Nat.zero_le _, Nat.zero_le _⟩ rfl (Nat.le_of_ble_eq_true rfl) (atL dAX3_signIn_0 38 rfl) (fun _ s2 e2 => ?_)
        rw [hrz.2, show (((sT 5).getD j 0 : Int) % 256).toNat = ((nam h).getD j 0) from ((nam5 j (by omega)).trans (by rw [nam1 (by omega)]))] at e2
        have hl2 : ([0] ++ [1] ++ List.replicate (k - 3 - 19 - hl h) 255 ++ [0] ++ (nam h).take j ++ [((nam h).getD j 0)]).length = k - hl h - 19 + j + 1 := by rw [List.length_append, hlz]; rfl
        obtain ⟨hr2, hf2⟩ := RW_of (M := [0] ++ [1] ++ List.replicate (k - 3 - 19 - hl h) 255 ++ [0] ++ (nam h).take j ++ [((nam h).getD j 0)]) (hAz 25) e2 (by rw [hl2]; show _ ≤ 256; omega) (hrz.by.app (BY.one (by omega)))
        have hA2 := hAz.one hr2 hf2 (by simp)
        have hr2_a := haa.fr hf2 (by simp <;> omega) (by simp <;> omega)
        have hF2 := hFz.tr' (hf2.mono (by simp [SP]))
        show V X _ w _ _ s2 []
        refine v_iinc hX (lv' := [(5, .int (iI (((j : Int)) + 1))), (0, .ref (w.1 10 0)), (1, .ref (w.1 1 25)), (2, .int (iI ((k : Int)))), (3, .int (iI (h))), (4, .ref (w.1 1 a))]) 0 rfl (iI_add _ _) (Nat.le_of_ble_eq_true rfl) rfl (atL dAX3_signIn_0 39 rfl) ?_
        refine v_goto hX (tgt := 41) (atL dAX3_signIn_0 40 rfl) (by decide) ?_
        refine v_sub (lv' := [(5, .int (iI (((j : Int)) + 1))), (0, .ref (w.1 10 0)), (1, .ref (w.1 1 25)), (2, .int (iI ((k : Int)))), (3, .int (iI (h))), (4, .ref (w.1 1 a))]) [0, 1, 2, 3, 4, 5] rfl ?_
        rw [show (j : Int) + 1 = ((j + 1 : Nat) : Int) by omega]
        rw [List.append_assoc, take_get (by rw [nam_len]; omega)] at hr2
        exact ih (j + 1) _ (by omega) hr2 hr2_a hA2 hF2
      · refine v_gets hX 4 (by decide) wd_882 rfl (atL dAX3_signIn_0 31 rfl) (fun t53 hT53 => ?_)
        refine v_iload hX 0 rfl (atL dAX3_signIn_0 32 rfl) ?_
        refine v_sald hX j hT53 rfl (show j < 19 by omega) (by decide) rfl (atL dAX3_signIn_0 33 rfl) ?_
        refine v_goto hX (tgt := 68) (atL dAX3_signIn_0 34 rfl) (by decide) ?_
        refine v_callV hX (As := [.int (iI ((sT 4).getD j 0))]) (rest := []) (c_X4_add (xl X) w s 25 v25 (hAz 25) ((sT 4).getD j 0) (by rw [hrz.2, hlz]; show _ < 256; omega)) lk_X3_54 v25 (fun _ => rfl) rfl rfl rfl (by rw [hR]; exact ⟨Nat.le_of_ble_eq_true rfl, Nat.le_of_ble_eq_true rfl⟩) ⟨Nat.zero_le _, Nat.zero_le _⟩ rfl (Nat.le_of_ble_eq_true rfl) (atL dAX3_signIn_0 38 rfl) (fun _ s3 e3 => ?_)
        rw [hrz.2, show (((sT 4).getD j 0 : Int) % 256).toNat = ((nam h).getD j 0) from ((nam4 j (by omega)).trans (by rw [nam0 (by omega)]))] at e3
        have hl3 : ([0] ++ [1] ++ List.replicate (k - 3 - 19 - hl h) 255 ++ [0] ++ (nam h).take j ++ [((nam h).getD j 0)]).length = k - hl h - 19 + j + 1 := by rw [List.length_append, hlz]; rfl
        obtain ⟨hr3, hf3⟩ := RW_of (M := [0] ++ [1] ++ List.replicate (k - 3 - 19 - hl h) 255 ++ [0] ++ (nam h).take j ++ [((nam h).getD j 0)]) (hAz 25) e3 (by rw [hl3]; show _ ≤ 256; omega) (hrz.by.app (BY.one (by omega)))
        have hA3 := hAz.one hr3 hf3 (by simp)
        have hr3_a := haa.fr hf3 (by simp <;> omega) (by simp <;> omega)
        have hF3 := hFz.tr' (hf3.mono (by simp [SP]))
        show V X _ w _ _ s3 []
        refine v_iinc hX (lv' := [(5, .int (iI (((j : Int)) + 1))), (0, .ref (w.1 10 0)), (1, .ref (w.1 1 25)), (2, .int (iI ((k : Int)))), (3, .int (iI (h))), (4, .ref (w.1 1 a))]) 0 rfl (iI_add _ _) (Nat.le_of_ble_eq_true rfl) rfl (atL dAX3_signIn_0 39 rfl) ?_
        refine v_goto hX (tgt := 41) (atL dAX3_signIn_0 40 rfl) (by decide) ?_
        refine v_sub (lv' := [(5, .int (iI (((j : Int)) + 1))), (0, .ref (w.1 10 0)), (1, .ref (w.1 1 25)), (2, .int (iI ((k : Int)))), (3, .int (iI (h))), (4, .ref (w.1 1 a))]) [0, 1, 2, 3, 4, 5] rfl ?_
        rw [show (j : Int) + 1 = ((j + 1 : Nat) : Int) by omega]
        rw [List.append_assoc, take_get (by rw [nam_len]; omega)] at hr3
        exact ih (j + 1) _ (by omega) hr3 hr3_a hA3 hF3
  refine v_aload_n hX 1 rfl (atL dAX3_signIn_0 0 rfl) ?_
  refine v_iconst hX (atL dAX3_signIn_0 1 rfl) ?_
  refine pf_X3_42 hX v25 (atL dAX3_signIn_0 2 rfl) ?_
  rw [sr_nil]
  obtain ⟨hr4, hf4⟩ := RW_of (s := sr σ 25 []) (hA 25) rfl (by simp) BY.nil
  generalize sr σ 25 [] = s4 at hr4 hf4 ⊢
  have hl4 : ([] : List Nat).length = 0 := rfl
  have hA4 := hA.one hr4 hf4 (by simp)
  have hr4_a := ha.fr hf4 (by simp <;> omega) (by simp <;> omega)
  have hF4 := (Fr.rf : Fr SP σ σ).tr' (hf4.mono (by simp [SP]))
  refine v_aload_n hX 1 rfl (atL dAX3_signIn_0 3 rfl) ?_
  refine v_iconst hX (atL dAX3_signIn_0 4 rfl) ?_
  refine v_callV hX (As := [.int (iI (0))]) (rest := []) (c_X4_add (xl X) w s4 25 v25 (hA4 25) 0 (by rw [hr4.2, hl4]; show _ < 256; omega)) lk_X3_54 v25 (fun _ => rfl) rfl rfl rfl (by rw [hR]; exact ⟨Nat.le_of_ble_eq_true rfl, Nat.le_of_ble_eq_true rfl⟩) ⟨Nat.zero_le _, Nat.zero_le _⟩ rfl (Nat.le_of_ble_eq_true rfl) (atL dAX3_signIn_0 5 rfl) (fun _ s5 e5 => ?_)
  rw [hr4.2, show ((0 : Int) % 256).toNat = 0 from rfl] at e5
  rw [List.nil_append] at e5
  have hl5 : ([0]).length = 1 := by exact rfl
  obtain ⟨hr5, hf5⟩ := RW_of (M := [0]) (hA4 25) e5 (by rw [hl5]; show _ ≤ 256; omega) ((BY.one (by omega)))
  have hA5 := hA4.one hr5 hf5 (by simp)
  have hr5_a := hr4_a.fr hf5 (by simp <;> omega) (by simp <;> omega)
  have hF5 := hF4.tr' (hf5.mono (by simp [SP]))
  show V X _ w _ _ s5 []
  refine v_aload_n hX 1 rfl (atL dAX3_signIn_0 6 rfl) ?_
  refine v_iconst hX (atL dAX3_signIn_0 7 rfl) ?_
  refine v_callV hX (As := [.int (iI (1))]) (rest := []) (c_X4_add (xl X) w s5 25 v25 (hA5 25) 1 (by rw [hr5.2, hl5]; show _ < 256; omega)) lk_X3_54 v25 (fun _ => rfl) rfl rfl rfl (by rw [hR]; exact ⟨Nat.le_of_ble_eq_true rfl, Nat.le_of_ble_eq_true rfl⟩) ⟨Nat.zero_le _, Nat.zero_le _⟩ rfl (Nat.le_of_ble_eq_true rfl) (atL dAX3_signIn_0 8 rfl) (fun _ s6 e6 => ?_)
  rw [hr5.2, show ((1 : Int) % 256).toNat = 1 from rfl] at e6
  have hl6 : ([0] ++ [1]).length = 1 + 1 := by rw [List.length_append, hl5]; rfl
  obtain ⟨hr6, hf6⟩ := RW_of (M := [0] ++ [1]) (hA5 25) e6 (by rw [hl6]; show _ ≤ 256; omega) (hr5.by.app (BY.one (by omega)))
  have hA6 := hA5.one hr6 hf6 (by simp)
  have hr6_a := hr5_a.fr hf6 (by simp <;> omega) (by simp <;> omega)
  have hF6 := hF5.tr' (hf6.mono (by simp [SP]))
  show V X _ w _ _ s6 []
  refine v_aload_n hX 1 rfl (atL dAX3_signIn_0 9 rfl) ?_
  refine v_sipush hX (by decide +kernel) (atL dAX3_signIn_0 10 rfl) ?_
  refine v_iload_n hX 2 rfl (atL dAX3_signIn_0 11 rfl) ?_
  refine v_iconst hX (atL dAX3_signIn_0 12 rfl) ?_
  refine v_isub hX (iI_sub _ _) (atL dAX3_signIn_0 13 rfl) ?_
  refine v_bipush hX (by decide +kernel) (atL dAX3_signIn_0 14 rfl) ?_
  refine v_isub hX (iI_sub _ _) (atL dAX3_signIn_0 15 rfl) ?_
  refine v_iload_n hX 3 rfl (atL dAX3_signIn_0 16 rfl) ?_
  refine v_callS hX (As := [.int (iI (h))]) (rest := [.int (iI ((((k : Int)) - 3) - 19)), .int (iI (255)), .ref (w.1 1 25)]) (c_X1_lengthOf (xl X) w s6 h hh) lk_X3_36 rfl (by rw [hR]; exact ⟨Nat.le_of_ble_eq_true rfl, Nat.le_of_ble_eq_true rfl⟩) ⟨Nat.zero_le _, Nat.zero_le _⟩ rfl (Nat.le_of_ble_eq_true rfl) (atL dAX3_signIn_0 17 rfl) (fun r7 z7 g7 => ?_)
  obtain ⟨ga7, gb7⟩ := g7
  rw [gb7]
  subst ga7
  show V X _ w _ _ s6 [.int (iI ((hl h : Int))), .int (iI ((((k : Int)) - 3) - 19)), .int (iI (255)), .ref (w.1 1 25)]
  refine v_isub hX (iI_sub _ _) (atL dAX3_signIn_0 18 rfl) ?_
  rw [show (((((k : Int)) - 3) - 19) - ((hl h : Int))) = ((k - 3 - 19 - hl h : Nat) : Int) from (by omega)]
  refine v_callV hX (As := [.int (iI (255)), .int (iI (((k - 3 - 19 - hl h : Nat) : Int)))]) (rest := []) (c_X4_addTimes (xl X) w s6 25 v25 (hA6 25) 255 (k - 3 - 19 - hl h) (by rw [hr6.2, hl6]; show _ ≤ 256; omega)) lk_X3_50 v25 (fun _ => rfl) rfl rfl rfl (by rw [hR]; exact ⟨Nat.le_of_ble_eq_true rfl, Nat.le_of_ble_eq_true rfl⟩) ⟨Nat.zero_le _, Nat.zero_le _⟩ rfl (Nat.le_of_ble_eq_true rfl) (atL dAX3_signIn_0 19 rfl) (fun _ s8 e8 => ?_)
  rw [hr6.2, show ((255 : Int) % 256).toNat = 255 from rfl] at e8
  have hl8 : ([0] ++ [1] ++ List.replicate (k - 3 - 19 - hl h) 255).length = 1 + 1 + (k - 3 - 19 - hl h) := by rw [List.length_append, List.length_replicate, hl6]
  obtain ⟨hr8, hf8⟩ := RW_of (M := [0] ++ [1] ++ List.replicate (k - 3 - 19 - hl h) 255) (hA6 25) e8 (by rw [hl8]; show _ ≤ 256; omega) (hr6.by.app (BY.rep (by omega)))
  have hA8 := hA6.one hr8 hf8 (by simp)
  have hr8_a := hr6_a.fr hf8 (by simp <;> omega) (by simp <;> omega)
  have hF8 := hF6.tr' (hf8.mono (by simp [SP]))
  show V X _ w _ _ s8 []
  refine v_aload_n hX 1 rfl (atL dAX3_signIn_0 20 rfl) ?_
  refine v_iconst hX (atL dAX3_signIn_0 21 rfl) ?_
  refine v_callV hX (As := [.int (iI (0))]) (rest := []) (c_X4_add (xl X) w s8 25 v25 (hA8 25) 0 (by rw [hr8.2, hl8]; show _ < 256; omega)) lk_X3_54 v25 (fun _ => rfl) rfl rfl rfl (by rw [hR]; exact ⟨Nat.le_of_ble_eq_true rfl, Nat.le_of_ble_eq_true rfl⟩) ⟨Nat.zero_le _, Nat.zero_le _⟩ rfl (Nat.le_of_ble_eq_true rfl) (atL dAX3_signIn_0 22 rfl) (fun _ s9 e9 => ?_)
  rw [hr8.2, show ((0 : Int) % 256).toNat = 0 from rfl] at e9
  have hl9 : ([0] ++ [1] ++ List.replicate (k - 3 - 19 - hl h) 255 ++ [0]).length = 1 + 1 + (k - 3 - 19 - hl h) + 1 := by rw [List.length_append, hl8]; rfl
  obtain ⟨hr9, hf9⟩ := RW_of (M := [0] ++ [1] ++ List.replicate (k - 3 - 19 - hl h) 255 ++ [0]) (hA8 25) e9 (by rw [hl9]; show _ ≤ 256; omega) (hr8.by.app (BY.one (by omega)))
  have hA9 := hA8.one hr9 hf9 (by simp)
  have hr9_a := hr8_a.fr hf9 (by simp <;> omega) (by simp <;> omega)
  have hF9 := hF8.tr' (hf9.mono (by simp [SP]))
  show V X _ w _ _ s9 []
  refine v_iconst hX (atL dAX3_signIn_0 23 rfl) ?_
  refine v_istore hX (lv' := [(5, .int (iI (0))), (0, .ref (w.1 10 0)), (1, .ref (w.1 1 25)), (2, .int (iI ((k : Int)))), (3, .int (iI (h))), (4, .ref (w.1 1 a))]) (Nat.le_of_ble_eq_true rfl) rfl (atL dAX3_signIn_0 24 rfl) ?_
  refine v_sub (lv' := [(5, .int (iI (0))), (0, .ref (w.1 10 0)), (1, .ref (w.1 1 25)), (2, .int (iI ((k : Int)))), (3, .int (iI (h))), (4, .ref (w.1 1 a))]) [0, 1, 2, 3, 4, 5] rfl ?_
  exact l1 19 0 _ (by omega) (by rw [List.take_zero, List.append_nil]; exact hr9) hr9_a hA9 hF9
