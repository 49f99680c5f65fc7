theorem ZI.d4 {c : Nat} {z : Nat × Nat} {s t : St} (h : ZI c z s) (hk : t 10 0 4 = 1) : ZI c (z.1 + kap s * 10360, z.2 + kap s * 103600) t := by
  unfold ZI
  rw [kap_0 hk]
  exact ⟨by have := h.1; show z.1 + kap s * 10360 + 0 * 10360 ≤ _; omega, by have := h.2; show z.2 + kap s * 103600 + 0 * 103600 ≤ _; omega⟩
theorem signL_get {h : Int} {k q : Nat} {m : List Nat} (hk : 30 + hl h ≤ k) : (signL h k m).getD q 0 = if q = 0 then 0 else if q = 1 then 1 else if q < k - 20 - hl h then 255 else if q = k - 20 - hl h then 0 else if q < k - hl h then (nam h).getD (q - (k - hl h - 19)) 0 else (sha h m).getD (q - (k - hl h)) 0 := by
  unfold signL
  simp only [gD_app, gD_one, gD_rep, List.length_append, List.length_cons, List.length_nil, List.length_replicate, nam_len]
  repeat' split
  all_goals first | rfl | omega | (congr 1; omega) | (exfalso; omega)
theorem signL_by {h : Int} {k : Nat} {m : List Nat} : BY (signL h k m) := (((((BY.one (by omega)).app (BY.one (by omega))).app (BY.rep (by omega))).app (BY.one (by omega))).app nam_by).app sha_lt

set_option maxHeartbeats 1000000 in
set_option maxRecDepth 100000 in
theorem c_X8_forms [Gh] (l : Launch) (w : Wl) (σ : St) (hk0 : w.2 13 0) (hw19 : ∀ q, w.2 19 q → q < 4096) (A : Ab) (hM : HM σ A) (h0 : σ 10 0 0 = 0) (h : Int) (hh : isH h) (s : Nat) (hs : s < 24) (n : Nat) (hn3 : 30 + hl h ≤ n) (hn6 : n ≤ 256) : Cm l yX8_forms cX8_forms 7 none 4 102 (kap σ * 10360) (kap σ * 103600) wN [.ref (w.1 13 0), .int (iI (h)), .int (iI ((s : Int))), .int (iI ((n : Int)))] w σ (fun _ σ' => AW (σ' 13 13) 0 (signL h n (A.1 s)) ∧ FG σ σ' ∧ AN σ' ∧ DG σ' ∧ σ' 10 0 4 = 1 ∧ σ' 10 0 0 = 0) := by
  refine Cm.of (own := RX8) (lv := [(0, .ref (w.1 13 0)), (1, .int (iI (h))), (2, .int (iI ((s : Int)))), (3, .int (iI ((n : Int))))]) (by decide +kernel) rfl (Nat.le_of_ble_eq_true rfl) rfl (fun X hX hxl hR hcl hret => ?_)
  subst hxl
  have hQ : ∀ q, (14, q) ∈ mn σ 13 0 → w.2 14 q := fun q h => hcl 13 0 hk0 (14, q) h
  have hQ5 : ∀ q, (14, q) ∈ mn σ 13 0 → w.2 15 q := fun q h => hcl 14 q (hQ q h) (15, q) (by simp [mn, tp])
  have hQ16 : ∀ q, (16, q) ∈ mn σ 13 0 → w.2 16 q := fun q h => hcl 13 0 hk0 (16, q) h
  have hhr : rI h := by rcases hh with e | e <;> rw [e] <;> exact ⟨by omega, by omega⟩
  have hlg := hl_ge h
  have hl3 := hl_32 h
  obtain ⟨ls, hls⟩ : ∃ q, (A.1 s).length = q := ⟨_, rfl⟩
  have hqs : ls ≤ 256 := by rw [← hls]; exact hM.1.len hs
  refine v_iload_n hX 1 rfl (atL dAX8_forms_0 0 rfl) ?_
  refine v_callS hX (As := [.int (iI (h))]) (rest := []) (c_X8_long0 (xl X) w σ h hhr) lk_X8_351 rfl (by rw [hR]; exact ⟨Nat.le_of_ble_eq_true rfl, Nat.le_of_ble_eq_true rfl⟩) (by rw [hR]; exact (ZI.z : ZI (kap σ) (0, 0) σ).b) rfl (Nat.le_of_ble_eq_true rfl) (atL dAX8_forms_0 1 rfl) (fun r1 z1 g1 => ?_)
  obtain ⟨ga1, gb1⟩ := g1
  rw [gb1]
  subst ga1
  show V X _ w _ _ σ [.int (iI ((hl h : Int)))]
  refine v_istore hX (lv' := [(4, .int (iI ((hl h : Int)))), (0, .ref (w.1 13 0)), (1, .int (iI (h))), (2, .int (iI ((s : Int)))), (3, .int (iI ((n : Int))))]) (Nat.le_of_ble_eq_true rfl) rfl (atL dAX8_forms_0 2 rfl) ?_
  refine v_aload_n hX 1 rfl (atL dAX8_forms_0 3 rfl) ?_
  refine v_iload_n hX 3 rfl (atL dAX8_forms_0 4 rfl) ?_
  refine v_callV hX (As := [.int (iI ((s : Int)))]) (rest := []) (c_X8_saysSlot (xl X) w σ hk0 ([]) hM.2.2.rd s (by omega) (A.1 s) (hM.1.1 s (by omega)).1 (by rw [hls]; show 0 + _ ≤ _; omega)) lk_X8_345 hk0 (fun _ => rfl) rfl rfl rfl (by rw [hR]; exact ⟨Nat.le_of_ble_eq_true rfl, Nat.le_of_ble_eq_true rfl⟩) (by rw [hR]; exact (ZI.z : ZI (kap σ) (0, 0) σ).b) rfl (Nat.le_of_ble_eq_true rfl) (atL dAX8_forms_0 5 rfl) (fun _ s2 e2 => ?_)
  obtain ⟨hr2, gb2⟩ := e2
  rw [List.nil_append] at hr2
  have hl2 : (A.1 s).length = ls := by exact hls
  have hG2 := FG.rf.fd gb2
  have hA2 := hM.2.1.fp gb2.1 rfl
  have hco2 := CO.fd hM.2.2.2 gb2
  have ht2 : s2 10 0 0 = 0 := by rw [gb2.2 0 (by decide)]; omega
  have hz2 := (ZI.z : ZI (kap σ) (0, 0) σ).k (t := s2) (gb2.2 4 (by decide))
  show V X _ w _ _ s2 []
  refine v_aload_n hX 1 rfl (atL dAX8_forms_0 6 rfl) ?_
  refine v_iload_n hX 2 rfl (atL dAX8_forms_0 7 rfl) ?_
  refine v_callVM hX (As := [.int (iI (h))]) (rest := []) (c_X8_digests (xl X) w s2 hk0 hw19 hco2 h hh (A.1 s) hr2 (by rw [hl2]; omega)) lk_X8_348 hk0 (fun _ => rfl) rfl rfl rfl (by rw [hR]; exact ⟨Nat.le_of_ble_eq_true rfl, Nat.le_of_ble_eq_true rfl⟩) (by rw [hR]; exact hz2) rfl (Nat.le_of_ble_eq_true rfl) (atL dAX8_forms_0 8 rfl) (fun _ s3 e3 => ?_)
  obtain ⟨h53, h33, hck3, hg3⟩ := e3
  have hz3 := hz2.d hck3
  generalize (((0, 0) : Nat × Nat).1 + kap s2 * 10360, ((0, 0) : Nat × Nat).2 + kap s2 * 103600) = z3 at hz3 ⊢
  have hG3 := FDg.fg hG2 hg3
  have hA3 := FDg.an hA2 hg3
  have hD3 := hck3.dg h33
  have ht3 : s3 10 0 0 = 0 := by rw [hg3.2 0 (by decide) (by decide)]; omega
  show V X _ w _ _ s3 []
  refine v_iconst hX (atL dAX8_forms_0 9 rfl) ?_
  refine v_istore hX (lv' := [(5, .int (iI (0))), (4, .int (iI ((hl h : Int)))), (0, .ref (w.1 13 0)), (1, .int (iI (h))), (2, .int (iI ((s : Int)))), (3, .int (iI ((n : Int))))]) (Nat.le_of_ble_eq_true rfl) rfl (atL dAX8_forms_0 10 rfl) ?_
  have loop4 : ∀ (d j : Nat) (t4 : St), j + d = n → t4 13 13 = cp (s3 13 13) 0 j (fun _ => 255) → Fr [(13, 13)] s3 t4 → V X z3 w 19 [(5, .int (iI ((j : Int)))), (4, .int (iI ((hl h : Int)))), (0, .ref (w.1 13 0)), (1, .int (iI (h))), (2, .int (iI ((s : Int)))), (3, .int (iI ((n : Int))))] t4 [] := by
    intro d
    induction d with
    | zero =>
      intro j t4 hj hc4 hf4
      have hjN : j = n := by omega
      subst j
      have hA4 := hA3.fp hf4 rfl
      have hG4 := hG3.fr hf4 rfl (by decide)
      have hD4 := hD3.fr hf4 (by decide) (by decide) (by decide)
      have ht4 : t4 10 0 0 = 0 := by rw [hf4 10 0 (by decide)]; omega
      have hal4_5 : AW (t4 13 5) 0 (sha h (A.1 s)) := by rw [hf4 13 5 (by decide)]; exact h53
      have hc44 : t4 10 0 4 = 1 := Eq.trans (by rw [hf4 10 0 (by decide)]) hck3.1
      have hz4 := hz3.k (t := t4) (by rw [hf4 10 0 (by decide)])
      refine v_iload hX 0 rfl (atL dAX8_forms_0 11 rfl) ?_
      refine v_iload_n hX 5 rfl (atL dAX8_forms_0 12 rfl) ?_
      refine v_icmp_ge hX ⟨by omega, by omega⟩ ⟨by omega, by omega⟩ (tgt := 41) (atL dAX8_forms_0 13 rfl) (by decide) (fun h22 => ?_) (fun h22 => absurd h22 (by omega))
      refine v_aload_n hX 2 rfl (atL dAX8_forms_0 21 rfl) ?_
      refine gf_X8_147 hX hk0 (atL dAX8_forms_0 22 rfl) ?_
      refine v_iconst hX (atL dAX8_forms_0 23 rfl) ?_
      refine v_iconst hX (atL dAX8_forms_0 24 rfl) ?_
      refine v_iast hX (c := 13) 0 (hQ16 13 (by simp [mn, tp])) (by decide) (fun _ _ => rfl) rfl (show 0 < 600 by omega) (by decide) (atL dAX8_forms_0 25 rfl) ?_
      refine v_aload_n hX 2 rfl (atL dAX8_forms_0 26 rfl) ?_
      refine gf_X8_147 hX hk0 (atL dAX8_forms_0 27 rfl) ?_
      refine v_iconst hX (atL dAX8_forms_0 28 rfl) ?_
      refine v_iconst hX (atL dAX8_forms_0 29 rfl) ?_
      refine v_iast hX (c := 13) 1 (hQ16 13 (by simp [mn, tp])) (by decide) (fun _ _ => rfl) rfl (show 1 < 600 by omega) (by decide) (atL dAX8_forms_0 30 rfl) ?_
      refine v_iload_n hX 5 rfl (atL dAX8_forms_0 31 rfl) ?_
      refine v_iload hX 1 rfl (atL dAX8_forms_0 32 rfl) ?_
      refine v_isub hX (iI_sub _ _) (atL dAX8_forms_0 33 rfl) ?_
      refine v_bipush hX (by decide +kernel) (atL dAX8_forms_0 34 rfl) ?_
      refine v_isub hX (iI_sub _ _) (atL dAX8_forms_0 35 rfl) ?_
      rw [show ((((n : Int)) - ((hl h : Int))) - 19) = ((n - hl h - 19 : Nat) : Int) from (by omega)]
      refine v_istore hX (lv' := [(5, .int (iI (((n - hl h - 19 : Nat) : Int)))), (4, .int (iI ((hl h : Int)))), (0, .ref (w.1 13 0)), (1, .int (iI (h))), (2, .int (iI ((s : Int)))), (3, .int (iI ((n : Int))))]) (Nat.le_of_ble_eq_true rfl) rfl (atL dAX8_forms_0 36 rfl) ?_
      refine v_aload_n hX 2 rfl (atL dAX8_forms_0 37 rfl) ?_
      refine gf_X8_147 hX hk0 (atL dAX8_forms_0 38 rfl) ?_
      refine v_iload hX 0 rfl (atL dAX8_forms_0 39 rfl) ?_
      refine v_iconst hX (atL dAX8_forms_0 40 rfl) ?_
      refine v_isub hX (iI_sub _ _) (atL dAX8_forms_0 41 rfl) ?_
      refine v_iconst hX (atL dAX8_forms_0 42 rfl) ?_
      refine v_iast hX (c := 13) ((n - hl h - 20)) (hQ16 13 (by simp [mn, tp])) (by decide) (fun _ _ => rfl) (by omega) (show n - hl h - 20 < 600 by omega) (by decide) (atL dAX8_forms_0 43 rfl) ?_
      refine v_iconst hX (atL dAX8_forms_0 44 rfl) ?_
      refine v_istore hX (lv' := [(6, .int (iI (0))), (5, .int (iI (((n - hl h - 19 : Nat) : Int)))), (4, .int (iI ((hl h : Int)))), (0, .ref (w.1 13 0)), (1, .int (iI (h))), (2, .int (iI ((s : Int)))), (3, .int (iI ((n : Int))))]) (Nat.le_of_ble_eq_true rfl) rfl (atL dAX8_forms_0 45 rfl) ?_
      obtain ⟨b5, hb5⟩ : ∃ q, q = (su (su (su t4 13 13 0 0) 13 13 1 1) 13 13 ((n - hl h - 20)) 0) := ⟨_, rfl⟩
      rw [← hb5]
      have hA5 : AN b5 := by rw [hb5]; exact (((hA4.s1 (by decide)).s1 (by decide)).s1 (by decide))
      have hG5 : FG σ b5 := by rw [hb5]; exact (((hG4.sa rfl).sa rfl).sa rfl)
      have hD5 : DG b5 := by rw [hb5]; exact (((hD4.sa (by decide) (by decide)).sa (by decide) (by decide)).sa (by decide) (by decide))
      have ht5 : b5 10 0 0 = 0 := by rw [hb5, su_c (by decide), su_c (by decide), su_c (by decide)]; omega
      have hal5_5 : AW (b5 13 5) 0 (sha h (A.1 s)) := by rw [hb5, su_ri (by decide), su_ri (by decide), su_ri (by decide)]; exact hal4_5
      have hc45 : b5 10 0 4 = 1 := Eq.trans (by rw [hb5, su_c (by decide), su_c (by decide), su_c (by decide)]) hc44
      have hz5 := hz4.k (t := b5) (by rw [hb5, su_c (by decide), su_c (by decide), su_c (by decide)])
      have loop6 : ∀ (d j : Nat) (t6 : St), j + d = 19 → t6 13 13 = cp (b5 13 13) (n - hl h - 19) j (fun q => (((nam h).getD q 0 : Nat) : Int)) → Fr [(13, 13)] b5 t6 → V X z3 w 77 [(6, .int (iI ((j : Int)))), (5, .int (iI (((n - hl h - 19 : Nat) : Int)))), (4, .int (iI ((hl h : Int)))), (0, .ref (w.1 13 0)), (1, .int (iI (h))), (2, .int (iI ((s : Int)))), (3, .int (iI ((n : Int))))] t6 [] := by
        intro d
        induction d with
        | zero =>
          intro j t6 hj hc6 hf6
          have hjN : j = 19 := by omega
          subst j
          have hA6 := hA5.fp hf6 rfl
          have hG6 := hG5.fr hf6 rfl (by decide)
          have hD6 := hD5.fr hf6 (by decide) (by decide) (by decide)
          have ht6 : t6 10 0 0 = 0 := by rw [hf6 10 0 (by decide)]; omega
          have hal6_5 : AW (t6 13 5) 0 (sha h (A.1 s)) := by rw [hf6 13 5 (by decide)]; exact hal5_5
          have hc46 : t6 10 0 4 = 1 := Eq.trans (by rw [hf6 10 0 (by decide)]) hc45
          have hz6 := hz5.k (t := t6) (by rw [hf6 10 0 (by decide)])
          refine v_iload hX 0 rfl (atL dAX8_forms_0 46 rfl) ?_
          refine v_bipush hX (by decide +kernel) (atL dAX8_forms_0 47 rfl) ?_
          refine v_icmp_ge hX ⟨by omega, by omega⟩ ⟨by omega, by omega⟩ (tgt := 106) (atL dAX8_forms_0 48 rfl) (by decide) (fun h81 => ?_) (fun h81 => absurd h81 (by omega))
          refine v_iconst hX (atL dAX8_forms_1 0 rfl) ?_
          refine v_istore hX (lv' := [(6, .int (iI (0))), (5, .int (iI (((n - hl h - 19 : Nat) : Int)))), (4, .int (iI ((hl h : Int)))), (0, .ref (w.1 13 0)), (1, .int (iI (h))), (2, .int (iI ((s : Int)))), (3, .int (iI ((n : Int))))]) (Nat.le_of_ble_eq_true rfl) rfl (atL dAX8_forms_1 1 rfl) ?_
          have loop7 : ∀ (d j : Nat) (t7 : St), j + d = hl h → t7 13 13 = cp (t6 13 13) (n - hl h) j (fun q => (((sha h (A.1 s)).getD q 0 : Nat) : Int)) → Fr [(13, 13)] t6 t7 → V X z3 w 109 [(6, .int (iI ((j : Int)))), (5, .int (iI (((n - hl h - 19 : Nat) : Int)))), (4, .int (iI ((hl h : Int)))), (0, .ref (w.1 13 0)), (1, .int (iI (h))), (2, .int (iI ((s : Int)))), (3, .int (iI ((n : Int))))] t7 [] := by
            intro d
            induction d with
            | zero =>
              intro j t7 hj hc7 hf7
              have hjN : j = hl h := by omega
              subst j
              have hA7 := hA6.fp hf7 rfl
              have hG7 := hG6.fr hf7 rfl (by decide)
              have hD7 := hD6.fr hf7 (by decide) (by decide) (by decide)
              have ht7 : t7 10 0 0 = 0 := by rw [hf7 10 0 (by decide)]; omega
              have hal7_5 : AW (t7 13 5) 0 (sha h (A.1 s)) := by rw [hf7 13 5 (by decide)]; exact hal6_5
              have hc47 : t7 10 0 4 = 1 := Eq.trans (by rw [hf7 10 0 (by decide)]) hc46
              have hz7 := hz6.k (t := t7) (by rw [hf7 10 0 (by decide)])
              have hfin : AW (t7 13 13) 0 (signL h n (A.1 s)) := by
                refine AW.of (fun q hq => ?_)
                rw [signL_len hn3] at hq
                rw [signL_get hn3]
                simp only [hc7, cp, hc6, hb5, su_e, hc4]
                repeat' split
                all_goals first | rfl | omega | (congr 2; omega) | (congr 3; omega) | (exfalso; omega)
              refine v_iload hX 0 rfl (atL dAX8_forms_1 2 rfl) ?_
              refine v_iload hX 2 rfl (atL dAX8_forms_1 3 rfl) ?_
              refine v_icmp_ge hX ⟨by omega, by omega⟩ ⟨by omega, by omega⟩ (tgt := 141) (atL dAX8_forms_1 4 rfl) (by decide) (fun h113 => ?_) (fun h113 => absurd h113 (by omega))
              exact v_vret hX (atL dAX8_forms_1 19 rfl) ((hret () _ ⟨hfin, hG7, hA7, hD7, hc47, by omega⟩ _ hz7.b))
            | succ d ih =>
              intro j t7 hj hc7 hf7
              have hsj : t7 13 5 j = (((sha h (A.1 s)).getD j 0 : Nat) : Int) := by rw [hf7 13 5 (by decide)]; exact hal6_5.get (by rw [sha_len]; omega)
              refine v_iload hX 0 rfl (atL dAX8_forms_1 2 rfl) ?_
              refine v_iload hX 2 rfl (atL dAX8_forms_1 3 rfl) ?_
              refine v_icmp_ge hX ⟨by omega, by omega⟩ ⟨by omega, by omega⟩ (tgt := 141) (atL dAX8_forms_1 4 rfl) (by decide) (fun h113 => absurd h113 (by omega)) (fun h113 => ?_)
              refine v_aload_n hX 3 rfl (atL dAX8_forms_1 5 rfl) ?_
              refine gf_X8_147 hX hk0 (atL dAX8_forms_1 6 rfl) ?_
              refine v_iload_n hX 6 rfl (atL dAX8_forms_1 7 rfl) ?_
              refine v_iload hX 2 rfl (atL dAX8_forms_1 8 rfl) ?_
              refine v_isub hX (iI_sub _ _) (atL dAX8_forms_1 9 rfl) ?_
              refine v_iload hX 0 rfl (atL dAX8_forms_1 10 rfl) ?_
              refine v_iadd hX (iI_add _ _) (atL dAX8_forms_1 11 rfl) ?_
              refine v_aload_n hX 3 rfl (atL dAX8_forms_1 12 rfl) ?_
              refine gf_X8_98 hX hk0 (atL dAX8_forms_1 13 rfl) ?_
              refine v_iload hX 0 rfl (atL dAX8_forms_1 14 rfl) ?_
              refine v_iald hX (r := iI ((((sha h (A.1 s)).getD j 0 : Nat) : Int))) j (hQ16 5 (by simp [mn, tp])) (fun _ => rfl) rfl (show j < 32 by omega) (by decide) (congrArg iI hsj) (atL dAX8_forms_1 15 rfl) ?_
              refine v_iast hX (c := 13) ((n - hl h + j)) (hQ16 13 (by simp [mn, tp])) (by decide) (fun _ _ => rfl) (by omega) (show n - hl h + j < 600 by omega) (by decide) (atL dAX8_forms_1 16 rfl) ?_
              refine v_iinc hX (lv' := [(6, .int (iI (((j : Int)) + 1))), (5, .int (iI (((n - hl h - 19 : Nat) : Int)))), (4, .int (iI ((hl h : Int)))), (0, .ref (w.1 13 0)), (1, .int (iI (h))), (2, .int (iI ((s : Int)))), (3, .int (iI ((n : Int))))]) 0 rfl (iI_add _ _) (Nat.le_of_ble_eq_true rfl) rfl (atL dAX8_forms_1 17 rfl) ?_
              refine v_goto hX (tgt := 109) (atL dAX8_forms_1 18 rfl) (by decide) ?_
              refine v_sub (lv' := [(6, .int (iI (((j : Int)) + 1))), (5, .int (iI (((n - hl h - 19 : Nat) : Int)))), (4, .int (iI ((hl h : Int)))), (0, .ref (w.1 13 0)), (1, .int (iI (h))), (2, .int (iI ((s : Int)))), (3, .int (iI ((n : Int))))]) [0, 1, 2, 3, 4, 5, 6] rfl ?_
              rw [show (j : Int) + 1 = ((j + 1 : Nat) : Int) by omega]
              exact ih (j + 1) _ (by omega) (cp_s hc7 rfl) (hf7.tr' (Fr.su (by simp)))
          refine v_sub (lv' := [(6, .int (iI (0))), (5, .int (iI (((n - hl h - 19 : Nat) : Int)))), (4, .int (iI ((hl h : Int)))), (0, .ref (w.1 13 0)), (1, .int (iI (h))), (2, .int (iI ((s : Int)))), (3, .int (iI ((n : Int))))]) [0, 1, 2, 3, 4, 5, 6] rfl ?_
          exact loop7 (hl h) 0 t6 (by omega) cp_0.symm Fr.rf
        | succ d ih =>
          intro j t6 hj hc6 hf6
          refine v_iload hX 0 rfl (atL dAX8_forms_0 46 rfl) ?_
          refine v_bipush hX (by decide +kernel) (atL dAX8_forms_0 47 rfl) ?_
          refine v_icmp_ge hX ⟨by omega, by omega⟩ ⟨by omega, by omega⟩ (tgt := 106) (atL dAX8_forms_0 48 rfl) (by decide) (fun h81 => absurd h81 (by omega)) (fun h81 => ?_)
          refine v_aload_n hX 3 rfl (atL dAX8_forms_0 49 rfl) ?_
          refine gf_X8_147 hX hk0 (atL dAX8_forms_0 50 rfl) ?_
          refine v_iload hX 1 rfl (atL dAX8_forms_0 51 rfl) ?_
          refine v_iload hX 0 rfl (atL dAX8_forms_0 52 rfl) ?_
          refine v_iadd hX (iI_add _ _) (atL dAX8_forms_0 53 rfl) ?_
          refine v_iload_n hX 4 rfl (atL dAX8_forms_0 54 rfl) ?_
          refine v_iload hX 0 rfl (atL dAX8_forms_0 55 rfl) ?_
          refine v_callS hX (As := [.int (iI (h)), .int (iI ((j : Int)))]) (rest := [.int (iI ((((n - hl h - 19 : Nat) : Int)) + ((j : Int)))), .ref (w.1 16 13)]) (c_X8_head (xl X) w t6 h hhr j (by omega)) lk_X8_398 rfl (by rw [hR]; exact ⟨Nat.le_of_ble_eq_true rfl, Nat.le_of_ble_eq_true rfl⟩) (by rw [hR]; exact hz5.b) rfl (Nat.le_of_ble_eq_true rfl) (atL dAX8_forms_0 56 rfl) (fun r9 z9 g9 => ?_)
          obtain ⟨g9a, g9b⟩ := g9
          rw [g9b]
          subst g9a
          show V X _ w _ _ t6 [.int (iI ((((nam h).getD j 0 : Nat) : Int))), .int (iI ((((n - hl h - 19 : Nat) : Int)) + ((j : Int)))), .ref (w.1 16 13)]
          refine v_iast hX (c := 13) ((n - hl h - 19 + j)) (hQ16 13 (by simp [mn, tp])) (by decide) (fun _ _ => rfl) (by omega) (show n - hl h - 19 + j < 600 by omega) (by decide) (atL dAX8_forms_0 57 rfl) ?_
          refine v_iinc hX (lv' := [(6, .int (iI (((j : Int)) + 1))), (5, .int (iI (((n - hl h - 19 : Nat) : Int)))), (4, .int (iI ((hl h : Int)))), (0, .ref (w.1 13 0)), (1, .int (iI (h))), (2, .int (iI ((s : Int)))), (3, .int (iI ((n : Int))))]) 0 rfl (iI_add _ _) (Nat.le_of_ble_eq_true rfl) rfl (atL dAX8_forms_0 58 rfl) ?_
          refine v_goto hX (tgt := 77) (atL dAX8_forms_0 59 rfl) (by decide) ?_
          refine v_sub (lv' := [(6, .int (iI (((j : Int)) + 1))), (5, .int (iI (((n - hl h - 19 : Nat) : Int)))), (4, .int (iI ((hl h : Int)))), (0, .ref (w.1 13 0)), (1, .int (iI (h))), (2, .int (iI ((s : Int)))), (3, .int (iI ((n : Int))))]) [0, 1, 2, 3, 4, 5, 6] rfl ?_
          rw [show (j : Int) + 1 = ((j + 1 : Nat) : Int) by omega]
          exact ih (j + 1) _ (by omega) (cp_s hc6 rfl) (hf6.tr' (Fr.su (by simp)))
      refine v_sub (lv' := [(6, .int (iI (0))), (5, .int (iI (((n - hl h - 19 : Nat) : Int)))), (4, .int (iI ((hl h : Int)))), (0, .ref (w.1 13 0)), (1, .int (iI (h))), (2, .int (iI ((s : Int)))), (3, .int (iI ((n : Int))))]) [0, 1, 2, 3, 4, 5, 6] rfl ?_
      exact loop6 (19) 0 b5 (by omega) cp_0.symm Fr.rf
    | succ d ih =>
      intro j t4 hj hc4 hf4
      refine v_iload hX 0 rfl (atL dAX8_forms_0 11 rfl) ?_
      refine v_iload_n hX 5 rfl (atL dAX8_forms_0 12 rfl) ?_
      refine v_icmp_ge hX ⟨by omega, by omega⟩ ⟨by omega, by omega⟩ (tgt := 41) (atL dAX8_forms_0 13 rfl) (by decide) (fun h22 => absurd h22 (by omega)) (fun h22 => ?_)
      refine v_aload_n hX 2 rfl (atL dAX8_forms_0 14 rfl) ?_
      refine gf_X8_147 hX hk0 (atL dAX8_forms_0 15 rfl) ?_
      refine v_iload hX 0 rfl (atL dAX8_forms_0 16 rfl) ?_
      refine v_sipush hX (by decide +kernel) (atL dAX8_forms_0 17 rfl) ?_
      refine v_iast hX (c := 13) ((0 + j)) (hQ16 13 (by simp [mn, tp])) (by decide) (fun _ _ => rfl) (by omega) (show 0 + j < 600 by omega) (by decide) (atL dAX8_forms_0 18 rfl) ?_
      refine v_iinc hX (lv' := [(5, .int (iI (((j : Int)) + 1))), (4, .int (iI ((hl h : Int)))), (0, .ref (w.1 13 0)), (1, .int (iI (h))), (2, .int (iI ((s : Int)))), (3, .int (iI ((n : Int))))]) 0 rfl (iI_add _ _) (Nat.le_of_ble_eq_true rfl) rfl (atL dAX8_forms_0 19 rfl) ?_
      refine v_goto hX (tgt := 19) (atL dAX8_forms_0 20 rfl) (by decide) ?_
      refine v_sub (lv' := [(5, .int (iI (((j : Int)) + 1))), (4, .int (iI ((hl h : Int)))), (0, .ref (w.1 13 0)), (1, .int (iI (h))), (2, .int (iI ((s : Int)))), (3, .int (iI ((n : Int))))]) [0, 1, 2, 3, 4, 5] rfl ?_
      rw [show (j : Int) + 1 = ((j + 1 : Nat) : Int) by omega]
      exact ih (j + 1) _ (by omega) (cp_s hc4 rfl) (hf4.tr' (Fr.su (by simp)))
  refine v_sub (lv' := [(5, .int (iI (0))), (4, .int (iI ((hl h : Int)))), (0, .ref (w.1 13 0)), (1, .int (iI (h))), (2, .int (iI ((s : Int)))), (3, .int (iI ((n : Int))))]) [0, 1, 2, 3, 4, 5] rfl ?_
  exact loop4 (n) 0 s3 (by omega) cp_0.symm Fr.rf
