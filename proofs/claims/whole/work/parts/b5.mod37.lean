set_option maxHeartbeats 1000000 in
set_option maxRecDepth 100000 in
theorem c_X8_salts [Gh] (l : Launch) (w : Wl) (σ : St) (hk0 : w.2 13 0) (hw19 : ∀ q, w.2 19 q → q < 4096) (A : Ab) (hM : HM σ A) (h0 : σ 10 0 0 = 0) (h : Int) (hh : isH h) (s : Nat) (hs : s < 24) (a : Nat) (hka : w.2 16 a) (ha : a = 0 ∨ a = 13) (L : List Nat) (o n : Nat) (hn : L.length = n) (hA : AW (σ 13 a) o L) (hoa : o + n ≤ mlen a) (hn2 : n ≤ 256) : Cm l yX8_salts cX8_salts 8 none 4 102 (kap σ * 10360) (kap σ * 103600) wN [.ref (w.1 13 0), .int (iI (h)), .int (iI ((s : Int))), .ref (w.1 16 a), .int (iI ((o : Int))), .int (iI ((n : Int)))] w σ (fun _ σ' => AW (σ' 13 5) 0 (prf h (A.1 s) L) ∧ σ' 13 13 = σ 13 13 ∧ FG σ σ' ∧ AN σ' ∧ DG σ' ∧ σ' 10 0 4 = 1 ∧ σ' 10 0 0 = 0) := by
  refine Cm.of (own := RX8) (lv := [(0, .ref (w.1 13 0)), (1, .int (iI (h))), (2, .int (iI ((s : Int)))), (3, .ref (w.1 16 a)), (4, .int (iI ((o : Int)))), (5, .int (iI ((n : Int))))]) (by decide +kernel) rfl (Nat.le_of_ble_eq_true rfl) rfl (fun X hX hxl hR hcl hret => ?_)
  subst hxl
  have hQ : ∀ q, (14, q) ∈ mn σ 13 0 → w.2 14 q := fun q h => hcl 13 0 hk0 (14, q) h
  have hQ5 : ∀ q, (14, q) ∈ mn σ 13 0 → w.2 15 q := fun q h => hcl 14 q (hQ q h) (15, q) (by simp [mn, tp])
  have hQ16 : ∀ q, (16, q) ∈ mn σ 13 0 → w.2 16 q := fun q h => hcl 13 0 hk0 (16, q) h
  have hhr : rI h := by rcases hh with e | e <;> rw [e] <;> exact ⟨by omega, by omega⟩
  have hlg := hl_ge h
  have hl3 := hl_32 h
  obtain ⟨ls, hls⟩ : ∃ q, (A.1 s).length = q := ⟨_, rfl⟩
  have hqs : ls ≤ 256 := by rw [← hls]; exact hM.1.len hs
  have hml := mlen_lt a
  refine v_iload_n hX 1 rfl (atL dAX8_salts_0 0 rfl) ?_
  refine v_callS hX (As := [.int (iI (h))]) (rest := []) (c_X8_long0 (xl X) w σ h hhr) lk_X8_351 rfl (by rw [hR]; exact ⟨Nat.le_of_ble_eq_true rfl, Nat.le_of_ble_eq_true rfl⟩) (by rw [hR]; exact (ZI.z : ZI (kap σ) (0, 0) σ).b) rfl (Nat.le_of_ble_eq_true rfl) (atL dAX8_salts_0 1 rfl) (fun r1 z1 g1 => ?_)
  obtain ⟨ga1, gb1⟩ := g1
  rw [gb1]
  subst ga1
  show V X _ w _ _ σ [.int (iI ((hl h : Int)))]
  refine v_istore hX (lv' := [(6, .int (iI ((hl h : Int)))), (0, .ref (w.1 13 0)), (1, .int (iI (h))), (2, .int (iI ((s : Int)))), (3, .ref (w.1 16 a)), (4, .int (iI ((o : Int)))), (5, .int (iI ((n : Int))))]) (Nat.le_of_ble_eq_true rfl) rfl (atL dAX8_salts_0 2 rfl) ?_
  refine v_aload_n hX 1 rfl (atL dAX8_salts_0 3 rfl) ?_
  refine v_iload_n hX 3 rfl (atL dAX8_salts_0 4 rfl) ?_
  refine v_callV hX (As := [.int (iI ((s : Int)))]) (rest := []) (c_X8_saysSlot (xl X) w σ hk0 ([]) hM.2.2.rd s (by omega) (A.1 s) (hM.1.1 s (by omega)).1 (by rw [hls]; show 0 + _ ≤ _; omega)) lk_X8_345 hk0 (fun _ => rfl) rfl rfl rfl (by rw [hR]; exact ⟨Nat.le_of_ble_eq_true rfl, Nat.le_of_ble_eq_true rfl⟩) (by rw [hR]; exact (ZI.z : ZI (kap σ) (0, 0) σ).b) rfl (Nat.le_of_ble_eq_true rfl) (atL dAX8_salts_0 5 rfl) (fun _ s2 e2 => ?_)
  obtain ⟨hr2, gb2⟩ := e2
  rw [List.nil_append] at hr2
  have hl2 : (A.1 s).length = ls := by exact hls
  have hG2 := FG.rf.fd gb2
  have hA2 := hM.2.1.fp gb2.1 rfl
  have hco2 := CO.fd hM.2.2.2 gb2
  have ht2 : s2 10 0 0 = 0 := by rw [gb2.2 0 (by decide)]; omega
  have hz2 := (ZI.z : ZI (kap σ) (0, 0) σ).k (t := s2) (gb2.2 4 (by decide))
  have he132 : s2 13 13 = σ 13 13 := Eq.trans (by rw [gb2.1 13 13 (by decide)]) (rfl : σ 13 13 = σ 13 13)
  show V X _ w _ _ s2 []
  refine v_aload_n hX 1 rfl (atL dAX8_salts_0 6 rfl) ?_
  refine v_iload_n hX 2 rfl (atL dAX8_salts_0 7 rfl) ?_
  refine v_callVM hX (As := [.int (iI (h))]) (rest := []) (c_X8_digests (xl X) w s2 hk0 hw19 hco2 h hh (A.1 s) hr2 (by rw [hl2]; omega)) lk_X8_348 hk0 (fun _ => rfl) rfl rfl rfl (by rw [hR]; exact ⟨Nat.le_of_ble_eq_true rfl, Nat.le_of_ble_eq_true rfl⟩) (by rw [hR]; exact hz2) rfl (Nat.le_of_ble_eq_true rfl) (atL dAX8_salts_0 8 rfl) (fun _ s3 e3 => ?_)
  obtain ⟨h53, h33, hck3, hg3⟩ := e3
  have hz3 := hz2.d hck3
  generalize (((0, 0) : Nat × Nat).1 + kap s2 * 10360, ((0, 0) : Nat × Nat).2 + kap s2 * 103600) = z3 at hz3 ⊢
  have he133 : s3 13 13 = σ 13 13 := Eq.trans (by rw [hg3.1 13 13 (by decide)]) he132
  have hG3 := FDg.fg hG2 hg3
  have hA3 := FDg.an hA2 hg3
  have hD3 := hck3.dg h33
  have ht3 : s3 10 0 0 = 0 := by rw [hg3.2 0 (by decide) (by decide)]; omega
  show V X _ w _ _ s3 []
  refine v_aload_n hX 1 rfl (atL dAX8_salts_0 9 rfl) ?_
  refine v_iload hX 0 rfl (atL dAX8_salts_0 10 rfl) ?_
  refine v_callV hX (As := [.int (iI ((hl h : Int)))]) (rest := []) (c_X8_keepsDigest (xl X) w s3 hk0 (sha h (A.1 s)) (hl h) (sha_len : (sha h (A.1 s)).length = hl h) (by omega) h53) lk_X8_405 hk0 (fun _ => rfl) rfl rfl rfl (by rw [hR]; exact ⟨Nat.le_of_ble_eq_true rfl, Nat.le_of_ble_eq_true rfl⟩) (by rw [hR]; exact hz3.b) rfl (Nat.le_of_ble_eq_true rfl) (atL dAX8_salts_0 11 rfl) (fun _ s4 e4 => ?_)
  obtain ⟨hkd4, hf4⟩ := e4
  have hA4 := hA3.fp hf4 rfl
  have hG4 := hG3.fr hf4 rfl (by decide)
  have hD4 := hD3.fr hf4 (by decide) (by decide) (by decide)
  have ht4 : s4 10 0 0 = 0 := by rw [hf4 10 0 (by decide)]; omega
  have hal4_5 : AW (s4 13 5) 0 (sha h (A.1 s)) := by rw [hf4 13 5 (by decide)]; exact h53
  have hc44 : s4 10 0 4 = 1 := Eq.trans (by rw [hf4 10 0 (by decide)]) hck3.1
  have hz4 := hz3.k (t := s4) (by rw [hf4 10 0 (by decide)])
  have he134 : s4 13 13 = σ 13 13 := Eq.trans (by rw [hf4 13 13 (by decide)]) he133
  show V X _ w _ _ s4 []
  refine v_iconst hX (atL dAX8_salts_0 12 rfl) ?_
  refine v_istore hX (lv' := [(7, .int (iI (0))), (6, .int (iI ((hl h : Int)))), (0, .ref (w.1 13 0)), (1, .int (iI (h))), (2, .int (iI ((s : Int)))), (3, .ref (w.1 16 a)), (4, .int (iI ((o : Int)))), (5, .int (iI ((n : Int))))]) (Nat.le_of_ble_eq_true rfl) rfl (atL dAX8_salts_0 13 rfl) ?_
  have loop5 : ∀ (d j : Nat) (t5 : St), j + d = 8 → RD t5 ((List.replicate 8 0).take j) → FD s4 t5 → V X z3 w 25 [(7, .int (iI ((j : Int)))), (6, .int (iI ((hl h : Int)))), (0, .ref (w.1 13 0)), (1, .int (iI (h))), (2, .int (iI ((s : Int)))), (3, .ref (w.1 16 a)), (4, .int (iI ((o : Int)))), (5, .int (iI ((n : Int))))] t5 [] := by
    intro d
    induction d with
    | zero =>
      intro j t5 hj hrq5 hfq5
      have hjN : j = 8 := by omega
      subst j
      rw [List.take_of_length_le (by rw [(List.length_replicate : (List.replicate 8 0).length = 8)]; exact Nat.le_refl _)] at hrq5
      have ht6 : t5 10 0 0 = 0 := by rw [hfq5.2 0 (by decide)]; omega
      have hz6 := hz4.k (t := t5) (hfq5.2 4 (by decide))
      have hco6 := CO.fd hD4.2 hfq5
      have hG6 := hG4.fd hfq5
      have hA6 := hA4.fp hfq5.1 rfl
      have hal6_5 : AW (t5 13 5) 0 (sha h (A.1 s)) := by rw [hfq5.1 13 5 (by decide)]; exact hal4_5
      have hal6_14 : AW (t5 13 14) 0 (sha h (A.1 s)) := by rw [hfq5.1 13 14 (by decide)]; exact hkd4
      have hc46 : t5 10 0 4 = 1 := Eq.trans (hfq5.2 4 (by decide)) hc44
      have he136 : t5 13 13 = σ 13 13 := Eq.trans (by rw [hfq5.1 13 13 (by decide)]) he134
      have hl6 : ((List.replicate 8 0)).length = 8 := by rw [(List.length_replicate : (List.replicate 8 0).length = 8)]
      refine v_iload hX 0 rfl (atL dAX8_salts_0 14 rfl) ?_
      refine v_bipush hX (by decide +kernel) (atL dAX8_salts_0 15 rfl) ?_
      refine v_icmp_ge hX ⟨by omega, by omega⟩ ⟨by omega, by omega⟩ (tgt := 43) (atL dAX8_salts_0 16 rfl) (by decide) (fun h29 => ?_) (fun h29 => absurd h29 (by omega))
      refine v_iconst hX (atL dAX8_salts_0 22 rfl) ?_
      refine v_istore hX (lv' := [(7, .int (iI (0))), (6, .int (iI ((hl h : Int)))), (0, .ref (w.1 13 0)), (1, .int (iI (h))), (2, .int (iI ((s : Int)))), (3, .ref (w.1 16 a)), (4, .int (iI ((o : Int)))), (5, .int (iI ((n : Int))))]) (Nat.le_of_ble_eq_true rfl) rfl (atL dAX8_salts_0 23 rfl) ?_
      have loop7 : ∀ (d j : Nat) (t7 : St), j + d = hl h → RD t7 ((List.replicate 8 0) ++ (sha h (A.1 s)).take j) → FD t5 t7 → V X z3 w 46 [(7, .int (iI ((j : Int)))), (6, .int (iI ((hl h : Int)))), (0, .ref (w.1 13 0)), (1, .int (iI (h))), (2, .int (iI ((s : Int)))), (3, .ref (w.1 16 a)), (4, .int (iI ((o : Int)))), (5, .int (iI ((n : Int))))] t7 [] := by
        intro d
        induction d with
        | zero =>
          intro j t7 hj hrq7 hfq7
          have hjN : j = hl h := by omega
          subst j
          rw [List.take_of_length_le (by rw [(sha_len : (sha h (A.1 s)).length = hl h)]; exact Nat.le_refl _)] at hrq7
          have ht8 : t7 10 0 0 = 0 := by rw [hfq7.2 0 (by decide)]; omega
          have hz8 := hz6.k (t := t7) (hfq7.2 4 (by decide))
          have hco8 := CO.fd hco6 hfq7
          have hG8 := hG6.fd hfq7
          have hA8 := hA6.fp hfq7.1 rfl
          have hal8_5 : AW (t7 13 5) 0 (sha h (A.1 s)) := by rw [hfq7.1 13 5 (by decide)]; exact hal6_5
          have hal8_14 : AW (t7 13 14) 0 (sha h (A.1 s)) := by rw [hfq7.1 13 14 (by decide)]; exact hal6_14
          have hc48 : t7 10 0 4 = 1 := Eq.trans (hfq7.2 4 (by decide)) hc46
          have he138 : t7 13 13 = σ 13 13 := Eq.trans (by rw [hfq7.1 13 13 (by decide)]) he136
          have hl8 : ((List.replicate 8 0) ++ (sha h (A.1 s))).length = 8 + hl h := by rw [List.length_append, hl6, (sha_len : (sha h (A.1 s)).length = hl h)]
          refine v_iload hX 0 rfl (atL dAX8_salts_0 24 rfl) ?_
          refine v_iload hX 1 rfl (atL dAX8_salts_0 25 rfl) ?_
          refine v_icmp_ge hX ⟨by omega, by omega⟩ ⟨by omega, by omega⟩ (tgt := 70) (atL dAX8_salts_0 26 rfl) (by decide) (fun h50 => ?_) (fun h50 => absurd h50 (by omega))
          refine v_iconst hX (atL dAX8_salts_0 35 rfl) ?_
          refine v_istore hX (lv' := [(7, .int (iI (0))), (6, .int (iI ((hl h : Int)))), (0, .ref (w.1 13 0)), (1, .int (iI (h))), (2, .int (iI ((s : Int)))), (3, .ref (w.1 16 a)), (4, .int (iI ((o : Int)))), (5, .int (iI ((n : Int))))]) (Nat.le_of_ble_eq_true rfl) rfl (atL dAX8_salts_0 36 rfl) ?_
          have loop9 : ∀ (d j : Nat) (t9 : St), j + d = n → RD t9 ((List.replicate 8 0) ++ (sha h (A.1 s)) ++ L.take j) → FD t7 t9 → V X z3 w 73 [(7, .int (iI ((j : Int)))), (6, .int (iI ((hl h : Int)))), (0, .ref (w.1 13 0)), (1, .int (iI (h))), (2, .int (iI ((s : Int)))), (3, .ref (w.1 16 a)), (4, .int (iI ((o : Int)))), (5, .int (iI ((n : Int))))] t9 [] := by
            intro d
            induction d with
            | zero =>
              intro j t9 hj hrq9 hfq9
              have hjN : j = n := by omega
              subst j
              rw [List.take_of_length_le (by rw [hn]; exact Nat.le_refl _)] at hrq9
              have ht10 : t9 10 0 0 = 0 := by rw [hfq9.2 0 (by decide)]; omega
              have hz10 := hz8.k (t := t9) (hfq9.2 4 (by decide))
              have hco10 := CO.fd hco8 hfq9
              have hG10 := hG8.fd hfq9
              have hA10 := hA8.fp hfq9.1 rfl
              have hal10_5 : AW (t9 13 5) 0 (sha h (A.1 s)) := by rw [hfq9.1 13 5 (by decide)]; exact hal8_5
              have hal10_14 : AW (t9 13 14) 0 (sha h (A.1 s)) := by rw [hfq9.1 13 14 (by decide)]; exact hal8_14
              have hc410 : t9 10 0 4 = 1 := Eq.trans (hfq9.2 4 (by decide)) hc48
              have he1310 : t9 13 13 = σ 13 13 := Eq.trans (by rw [hfq9.1 13 13 (by decide)]) he138
              have hl10 : ((List.replicate 8 0) ++ (sha h (A.1 s)) ++ L).length = 8 + hl h + n := by rw [List.length_append, hl8, hn]
              refine v_iload hX 0 rfl (atL dAX8_salts_0 37 rfl) ?_
              refine v_iload hX 7 rfl (atL dAX8_salts_0 38 rfl) ?_
              refine v_icmp_ge hX ⟨by omega, by omega⟩ ⟨by omega, by omega⟩ (tgt := 97) (atL dAX8_salts_0 39 rfl) (by decide) (fun h77 => ?_) (fun h77 => absurd h77 (by omega))
              refine v_aload_n hX 2 rfl (atL dAX8_salts_0 49 rfl) ?_
              refine v_iload_n hX 3 rfl (atL dAX8_salts_0 50 rfl) ?_
              refine v_callVM hX (As := [.int (iI (h))]) (rest := []) (c_X8_digests (xl X) w t9 hk0 hw19 hco10 h hh ((List.replicate 8 0) ++ (sha h (A.1 s)) ++ L) hrq9 (by rw [hl10]; omega)) lk_X8_348 hk0 (fun _ => rfl) rfl rfl rfl (by rw [hR]; exact ⟨Nat.le_of_ble_eq_true rfl, Nat.le_of_ble_eq_true rfl⟩) (by rw [hR]; exact hz10) rfl (Nat.le_of_ble_eq_true rfl) (atL dAX8_salts_0 51 rfl) (fun _ s11 e11 => ?_)
              obtain ⟨h511, h311, hck11, hg11⟩ := e11
              have hz11 := hz10.d hck11
              generalize (z3.1 + kap t9 * 10360, z3.2 + kap t9 * 103600) = z11 at hz11 ⊢
              have hal11_14 : AW (s11 13 14) 0 (sha h (A.1 s)) := by rw [hg11.1 13 14 (by decide)]; exact hal10_14
              have he1311 : s11 13 13 = σ 13 13 := Eq.trans (by rw [hg11.1 13 13 (by decide)]) he1310
              have hG11 := FDg.fg hG10 hg11
              have hA11 := FDg.an hA10 hg11
              have hD11 := hck11.dg h311
              have ht11 : s11 10 0 0 = 0 := by rw [hg11.2 0 (by decide) (by decide)]; omega
              show V X _ w _ _ s11 []
              exact v_vret hX (atL dAX8_salts_0 52 rfl) ((hret () _ ⟨h511, he1311, hG11, hA11, hD11, hck11.1, by omega⟩ _ hz11.b))
            | succ d ih =>
              intro j t9 hj hrq9 hfq9
              have ht12 : t9 10 0 0 = 0 := by rw [hfq9.2 0 (by decide)]; omega
              have hz12 := hz8.k (t := t9) (hfq9.2 4 (by decide))
              have hco12 := CO.fd hco8 hfq9
              have hG12 := hG8.fd hfq9
              have hA12 := hA8.fp hfq9.1 rfl
              have hal12_5 : AW (t9 13 5) 0 (sha h (A.1 s)) := by rw [hfq9.1 13 5 (by decide)]; exact hal8_5
              have hal12_14 : AW (t9 13 14) 0 (sha h (A.1 s)) := by rw [hfq9.1 13 14 (by decide)]; exact hal8_14
              have hc412 : t9 10 0 4 = 1 := Eq.trans (hfq9.2 4 (by decide)) hc48
              have he1312 : t9 13 13 = σ 13 13 := Eq.trans (by rw [hfq9.1 13 13 (by decide)]) he138
              have hl12 : ((List.replicate 8 0) ++ (sha h (A.1 s)) ++ L.take j).length = 8 + hl h + j := by rw [List.length_append, List.length_take, hl8, hn]; omega
              have hx : t9 13 a (o + j) = ((L.getD j 0 : Nat) : Int) := by rw [show t9 13 a = σ 13 a from by rcases ha with e | e; rw [e]; exact hG12.1 13 0 rfl; rw [e]; exact he1312]; exact hA j (by omega)
              refine v_iload hX 0 rfl (atL dAX8_salts_0 37 rfl) ?_
              refine v_iload hX 7 rfl (atL dAX8_salts_0 38 rfl) ?_
              refine v_icmp_ge hX ⟨by omega, by omega⟩ ⟨by omega, by omega⟩ (tgt := 97) (atL dAX8_salts_0 39 rfl) (by decide) (fun h77 => absurd h77 (by omega)) (fun h77 => ?_)
              refine v_aload_n hX 2 rfl (atL dAX8_salts_0 40 rfl) ?_
              refine v_aload_n hX 5 rfl (atL dAX8_salts_0 41 rfl) ?_
              refine v_iload hX 6 rfl (atL dAX8_salts_0 42 rfl) ?_
              refine v_iload hX 0 rfl (atL dAX8_salts_0 43 rfl) ?_
              refine v_iadd hX (iI_add _ _) (atL dAX8_salts_0 44 rfl) ?_
              refine v_iald hX (r := iI (((L.getD j 0 : Nat) : Int))) ((o + j)) hka (fun _ => rfl) (by omega) (show o + j < mlen a by omega) (mlen_lt a) (congrArg iI hx) (atL dAX8_salts_0 45 rfl) ?_
              refine v_callV hX (As := [.int (iI (((L.getD j 0 : Nat) : Int)))]) (rest := []) (c_X8_says (xl X) w t9 hk0 ((List.replicate 8 0) ++ (sha h (A.1 s)) ++ L.take j) hrq9 (by rw [hl12]; omega) (L.getD j 0)) lk_X8_326 hk0 (fun _ => rfl) rfl rfl rfl (by rw [hR]; exact ⟨Nat.le_of_ble_eq_true rfl, Nat.le_of_ble_eq_true rfl⟩) (by rw [hR]; exact hz12.b) rfl (Nat.le_of_ble_eq_true rfl) (atL dAX8_salts_0 46 rfl) (fun _ s13 e13 => ?_)
              obtain ⟨hr13, gb13⟩ := e13
              have hl13 : ((List.replicate 8 0) ++ (sha h (A.1 s)) ++ L.take j ++ [L.getD j 0]).length = 8 + hl h + j + 1 := by rw [List.length_append, hl12]; rfl
              have hG13 := hG12.fd gb13
              have hA13 := hA12.fp gb13.1 rfl
              have hco13 := CO.fd hco12 gb13
              have ht13 : s13 10 0 0 = 0 := by rw [gb13.2 0 (by decide)]; omega
              have hal13_5 : AW (s13 13 5) 0 (sha h (A.1 s)) := by rw [gb13.1 13 5 (by decide)]; exact hal12_5
              have hal13_14 : AW (s13 13 14) 0 (sha h (A.1 s)) := by rw [gb13.1 13 14 (by decide)]; exact hal12_14
              have hc413 : s13 10 0 4 = 1 := Eq.trans (gb13.2 4 (by decide)) hc412
              have hz13 := hz12.k (t := s13) (gb13.2 4 (by decide))
              have he1313 : s13 13 13 = σ 13 13 := Eq.trans (by rw [gb13.1 13 13 (by decide)]) he1312
              show V X _ w _ _ s13 []
              refine v_iinc hX (lv' := [(7, .int (iI (((j : Int)) + 1))), (6, .int (iI ((hl h : Int)))), (0, .ref (w.1 13 0)), (1, .int (iI (h))), (2, .int (iI ((s : Int)))), (3, .ref (w.1 16 a)), (4, .int (iI ((o : Int)))), (5, .int (iI ((n : Int))))]) 0 rfl (iI_add _ _) (Nat.le_of_ble_eq_true rfl) rfl (atL dAX8_salts_0 47 rfl) ?_
              refine v_goto hX (tgt := 73) (atL dAX8_salts_0 48 rfl) (by decide) ?_
              refine v_sub (lv' := [(7, .int (iI (((j : Int)) + 1))), (6, .int (iI ((hl h : Int)))), (0, .ref (w.1 13 0)), (1, .int (iI (h))), (2, .int (iI ((s : Int)))), (3, .ref (w.1 16 a)), (4, .int (iI ((o : Int)))), (5, .int (iI ((n : Int))))]) [0, 1, 2, 3, 4, 5, 6, 7] rfl ?_
              rw [show (j : Int) + 1 = ((j + 1 : Nat) : Int) by omega]
              rw [List.append_assoc, take_get2 (by rw [hn]; omega)] at hr13
              exact ih (j + 1) _ (by omega) hr13 (hfq9.tr gb13)
          refine v_sub (lv' := [(7, .int (iI (0))), (6, .int (iI ((hl h : Int)))), (0, .ref (w.1 13 0)), (1, .int (iI (h))), (2, .int (iI ((s : Int)))), (3, .ref (w.1 16 a)), (4, .int (iI ((o : Int)))), (5, .int (iI ((n : Int))))]) [0, 1, 2, 3, 4, 5, 6, 7] rfl ?_
          exact loop9 (n) 0 t7 (by omega) (by rw [List.take_zero, List.append_nil]; exact hrq7) FD.rf
        | succ d ih =>
          intro j t7 hj hrq7 hfq7
          have ht14 : t7 10 0 0 = 0 := by rw [hfq7.2 0 (by decide)]; omega
          have hz14 := hz6.k (t := t7) (hfq7.2 4 (by decide))
          have hco14 := CO.fd hco6 hfq7
          have hG14 := hG6.fd hfq7
          have hA14 := hA6.fp hfq7.1 rfl
          have hal14_5 : AW (t7 13 5) 0 (sha h (A.1 s)) := by rw [hfq7.1 13 5 (by decide)]; exact hal6_5
          have hal14_14 : AW (t7 13 14) 0 (sha h (A.1 s)) := by rw [hfq7.1 13 14 (by decide)]; exact hal6_14
          have hc414 : t7 10 0 4 = 1 := Eq.trans (hfq7.2 4 (by decide)) hc46
          have he1314 : t7 13 13 = σ 13 13 := Eq.trans (by rw [hfq7.1 13 13 (by decide)]) he136
          have hl14 : ((List.replicate 8 0) ++ (sha h (A.1 s)).take j).length = 8 + j := by rw [List.length_append, List.length_take, hl6, (sha_len : (sha h (A.1 s)).length = hl h)]; omega
          refine v_iload hX 0 rfl (atL dAX8_salts_0 24 rfl) ?_
          refine v_iload hX 1 rfl (atL dAX8_salts_0 25 rfl) ?_
          refine v_icmp_ge hX ⟨by omega, by omega⟩ ⟨by omega, by omega⟩ (tgt := 70) (atL dAX8_salts_0 26 rfl) (by decide) (fun h50 => absurd h50 (by omega)) (fun h50 => ?_)
          refine v_aload_n hX 2 rfl (atL dAX8_salts_0 27 rfl) ?_
          refine v_aload_n hX 2 rfl (atL dAX8_salts_0 28 rfl) ?_
          refine gf_X8_150 hX hk0 (atL dAX8_salts_0 29 rfl) ?_
          refine v_iload hX 0 rfl (atL dAX8_salts_0 30 rfl) ?_
          have hpv15 := hal14_14.get (j := j) (by rw [(sha_len : (sha h (A.1 s)).length = hl h)]; omega)
          have hpb15 := (show BY (sha h (A.1 s)) from sha_lt).get j
          refine v_iald hX (r := iI ((((sha h (A.1 s)).getD j 0 : Nat) : Int))) ((j)) (hQ16 14 (by simp [mn, tp])) (fun _ => rfl) (by omega) (show j < 32 by omega) (by decide) (congrArg iI hpv15) (atL dAX8_salts_0 31 rfl) ?_
          refine v_callV hX (As := [.int (iI ((((sha h (A.1 s)).getD j 0 : Nat) : Int)))]) (rest := []) (c_X8_says (xl X) w t7 hk0 ((List.replicate 8 0) ++ (sha h (A.1 s)).take j) hrq7 (by rw [hl14]; omega) ((sha h (A.1 s)).getD j 0)) lk_X8_326 hk0 (fun _ => rfl) rfl rfl rfl (by rw [hR]; exact ⟨Nat.le_of_ble_eq_true rfl, Nat.le_of_ble_eq_true rfl⟩) (by rw [hR]; exact hz14.b) rfl (Nat.le_of_ble_eq_true rfl) (atL dAX8_salts_0 32 rfl) (fun _ s16 e16 => ?_)
          obtain ⟨hr16, gb16⟩ := e16
          have hl16 : ((List.replicate 8 0) ++ (sha h (A.1 s)).take j ++ [(sha h (A.1 s)).getD j 0]).length = 8 + j + 1 := by rw [List.length_append, hl14]; rfl
          have hG16 := hG14.fd gb16
          have hA16 := hA14.fp gb16.1 rfl
          have hco16 := CO.fd hco14 gb16
          have ht16 : s16 10 0 0 = 0 := by rw [gb16.2 0 (by decide)]; omega
          have hal16_5 : AW (s16 13 5) 0 (sha h (A.1 s)) := by rw [gb16.1 13 5 (by decide)]; exact hal14_5
          have hal16_14 : AW (s16 13 14) 0 (sha h (A.1 s)) := by rw [gb16.1 13 14 (by decide)]; exact hal14_14
          have hc416 : s16 10 0 4 = 1 := Eq.trans (gb16.2 4 (by decide)) hc414
          have hz16 := hz14.k (t := s16) (gb16.2 4 (by decide))
          have he1316 : s16 13 13 = σ 13 13 := Eq.trans (by rw [gb16.1 13 13 (by decide)]) he1314
          show V X _ w _ _ s16 []
          refine v_iinc hX (lv' := [(7, .int (iI (((j : Int)) + 1))), (6, .int (iI ((hl h : Int)))), (0, .ref (w.1 13 0)), (1, .int (iI (h))), (2, .int (iI ((s : Int)))), (3, .ref (w.1 16 a)), (4, .int (iI ((o : Int)))), (5, .int (iI ((n : Int))))]) 0 rfl (iI_add _ _) (Nat.le_of_ble_eq_true rfl) rfl (atL dAX8_salts_0 33 rfl) ?_
          refine v_goto hX (tgt := 46) (atL dAX8_salts_0 34 rfl) (by decide) ?_
          refine v_sub (lv' := [(7, .int (iI (((j : Int)) + 1))), (6, .int (iI ((hl h : Int)))), (0, .ref (w.1 13 0)), (1, .int (iI (h))), (2, .int (iI ((s : Int)))), (3, .ref (w.1 16 a)), (4, .int (iI ((o : Int)))), (5, .int (iI ((n : Int))))]) [0, 1, 2, 3, 4, 5, 6, 7] rfl ?_
          rw [show (j : Int) + 1 = ((j + 1 : Nat) : Int) by omega]
          rw [List.append_assoc, take_get2 (by rw [(sha_len : (sha h (A.1 s)).length = hl h)]; omega)] at hr16
          exact ih (j + 1) _ (by omega) hr16 (hfq7.tr gb16)
      refine v_sub (lv' := [(7, .int (iI (0))), (6, .int (iI ((hl h : Int)))), (0, .ref (w.1 13 0)), (1, .int (iI (h))), (2, .int (iI ((s : Int)))), (3, .ref (w.1 16 a)), (4, .int (iI ((o : Int)))), (5, .int (iI ((n : Int))))]) [0, 1, 2, 3, 4, 5, 6, 7] rfl ?_
      exact loop7 (hl h) 0 t5 (by omega) (by rw [List.take_zero, List.append_nil]; exact hrq5) FD.rf
    | succ d ih =>
      intro j t5 hj hrq5 hfq5
      have ht17 : t5 10 0 0 = 0 := by rw [hfq5.2 0 (by decide)]; omega
      have hz17 := hz4.k (t := t5) (hfq5.2 4 (by decide))
      have hco17 := CO.fd hD4.2 hfq5
      have hG17 := hG4.fd hfq5
      have hA17 := hA4.fp hfq5.1 rfl
      have hal17_5 : AW (t5 13 5) 0 (sha h (A.1 s)) := by rw [hfq5.1 13 5 (by decide)]; exact hal4_5
      have hal17_14 : AW (t5 13 14) 0 (sha h (A.1 s)) := by rw [hfq5.1 13 14 (by decide)]; exact hkd4
      have hc417 : t5 10 0 4 = 1 := Eq.trans (hfq5.2 4 (by decide)) hc44
      have he1317 : t5 13 13 = σ 13 13 := Eq.trans (by rw [hfq5.1 13 13 (by decide)]) he134
      have hl17 : ((List.replicate 8 0).take j).length = j := by rw [List.length_take, (List.length_replicate : (List.replicate 8 0).length = 8)]; omega
      have hg0 : (List.replicate 8 0).getD j 0 = 0 := by rw [gD_rep, if_pos (by omega)]
      refine v_iload hX 0 rfl (atL dAX8_salts_0 14 rfl) ?_
      refine v_bipush hX (by decide +kernel) (atL dAX8_salts_0 15 rfl) ?_
      refine v_icmp_ge hX ⟨by omega, by omega⟩ ⟨by omega, by omega⟩ (tgt := 43) (atL dAX8_salts_0 16 rfl) (by decide) (fun h29 => absurd h29 (by omega)) (fun h29 => ?_)
      refine v_aload_n hX 2 rfl (atL dAX8_salts_0 17 rfl) ?_
      refine v_iconstE hX (r := (((List.replicate 8 0).getD j 0 : Nat) : Int)) (by rw [hg0]; rfl) (atL dAX8_salts_0 18 rfl) ?_
      refine v_callV hX (As := [.int (iI ((((List.replicate 8 0).getD j 0 : Nat) : Int)))]) (rest := []) (c_X8_says (xl X) w t5 hk0 ((List.replicate 8 0).take j) hrq5 (by rw [hl17]; omega) ((List.replicate 8 0).getD j 0)) lk_X8_326 hk0 (fun _ => rfl) rfl rfl rfl (by rw [hR]; exact ⟨Nat.le_of_ble_eq_true rfl, Nat.le_of_ble_eq_true rfl⟩) (by rw [hR]; exact hz17.b) rfl (Nat.le_of_ble_eq_true rfl) (atL dAX8_salts_0 19 rfl) (fun _ s18 e18 => ?_)
      obtain ⟨hr18, gb18⟩ := e18
      have hl18 : ((List.replicate 8 0).take j ++ [(List.replicate 8 0).getD j 0]).length = j + 1 := by rw [List.length_append, hl17]; rfl
      have hG18 := hG17.fd gb18
      have hA18 := hA17.fp gb18.1 rfl
      have hco18 := CO.fd hco17 gb18
      have ht18 : s18 10 0 0 = 0 := by rw [gb18.2 0 (by decide)]; omega
      have hal18_5 : AW (s18 13 5) 0 (sha h (A.1 s)) := by rw [gb18.1 13 5 (by decide)]; exact hal17_5
      have hal18_14 : AW (s18 13 14) 0 (sha h (A.1 s)) := by rw [gb18.1 13 14 (by decide)]; exact hal17_14
      have hc418 : s18 10 0 4 = 1 := Eq.trans (gb18.2 4 (by decide)) hc417
      have hz18 := hz17.k (t := s18) (gb18.2 4 (by decide))
      have he1318 : s18 13 13 = σ 13 13 := Eq.trans (by rw [gb18.1 13 13 (by decide)]) he1317
      show V X _ w _ _ s18 []
      refine v_iinc hX (lv' := [(7, .int (iI (((j : Int)) + 1))), (6, .int (iI ((hl h : Int)))), (0, .ref (w.1 13 0)), (1, .int (iI (h))), (2, .int (iI ((s : Int)))), (3, .ref (w.1 16 a)), (4, .int (iI ((o : Int)))), (5, .int (iI ((n : Int))))]) 0 rfl (iI_add _ _) (Nat.le_of_ble_eq_true rfl) rfl (atL dAX8_salts_0 20 rfl) ?_
      refine v_goto hX (tgt := 25) (atL dAX8_salts_0 21 rfl) (by decide) ?_
      refine v_sub (lv' := [(7, .int (iI (((j : Int)) + 1))), (6, .int (iI ((hl h : Int)))), (0, .ref (w.1 13 0)), (1, .int (iI (h))), (2, .int (iI ((s : Int)))), (3, .ref (w.1 16 a)), (4, .int (iI ((o : Int)))), (5, .int (iI ((n : Int))))]) [0, 1, 2, 3, 4, 5, 6, 7] rfl ?_
      rw [show (j : Int) + 1 = ((j + 1 : Nat) : Int) by omega]
      rw [take_get2 (by rw [(List.length_replicate : (List.replicate 8 0).length = 8)]; omega)] at hr18
      exact ih (j + 1) _ (by omega) hr18 (hfq5.tr gb18)
  refine v_sub (lv' := [(7, .int (iI (0))), (6, .int (iI ((hl h : Int)))), (0, .ref (w.1 13 0)), (1, .int (iI (h))), (2, .int (iI ((s : Int)))), (3, .ref (w.1 16 a)), (4, .int (iI ((o : Int)))), (5, .int (iI ((n : Int))))]) [0, 1, 2, 3, 4, 5, 6, 7] rfl ?_
  exact loop5 (8) 0 s4 (by omega) (by rw [List.take_zero]; exact hD4.rd) FD.rf
