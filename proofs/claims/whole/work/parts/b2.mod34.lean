theorem AW.app {f : Nat → Int} {o : Nat} {A B : List Nat} (h : AW f o (A ++ B)) : AW f o A ∧ AW f (o + A.length) B := by
  refine ⟨fun j hj => ?_, fun j hj => ?_⟩
  · rw [h j (by rw [List.length_append]; omega), gD_app, if_pos hj]
  · rw [show o + A.length + j = o + (A.length + j) by omega, h (A.length + j) (by rw [List.length_append]; omega), gD_app, if_neg (by omega), show A.length + j - A.length = j by omega]
theorem AW.sub {f : Nat → Int} {F : List Nat} {o n : Nat} (h : AW f 0 F) (hn : o + n ≤ F.length) : AW f o ((F.drop o).take n) := by
  intro j hj
  rw [List.length_take, List.length_drop] at hj
  rw [h.get (by omega), gD_take, if_pos (by omega), gD_drop]
theorem crs_app {A B C M : List Nat} {o n : Nat} (ho : A.length = o) (hn : B.length = n) : crs (A ++ B ++ C) o n M = A ++ mix B M ++ C := by
  subst ho
  subst hn
  unfold crs
  have e1 : (A ++ B ++ C).take A.length = A := by rw [List.append_assoc, List.take_left]
  have e2 : (A ++ B ++ C).drop A.length = B ++ C := by rw [List.append_assoc, List.drop_left]
  have e3 : (A ++ B ++ C).drop (A.length + B.length) = C := by rw [show A.length + B.length = (A ++ B).length by rw [List.length_append], List.drop_left]
  rw [e1, e2, e3, List.take_left]
theorem crs_app2 {A B M : List Nat} {o n : Nat} (ho : A.length = o) (hn : B.length = n) : crs (A ++ B) o n M = A ++ mix B M := by
  have := crs_app (C := []) (M := M) ho hn
  rw [List.append_nil, List.append_nil] at this
  exact this
theorem mix_comm {A B : List Nat} (h : A.length = B.length) : mix A B = mix B A := by
  refine list_ext (by rw [mix_len, mix_len, h]) (fun j hj => ?_)
  rw [mix_len] at hj
  rw [mix_get hj, mix_get (by omega), Nat.xor_comm]

set_option maxHeartbeats 1000000 in
set_option maxRecDepth 100000 in
theorem c_X8_digest [Gh] (l : Launch) (w : Wl) (σ : St) (hk0 : w.2 13 0) (hw19 : ∀ q, w.2 19 q → q < 4096) (A : Ab) (hM : HM σ A) (p0 : Int) (hp0 : rI p0) (p1 : Int) (hp1 : rI p1) (p2 : Int) (hp2 : rI p2) : Cz l yX8_digest cX8_digest 5 (Option.some Jvm.ClassFile.FieldType.int) 4 102 (kap σ * 10360) (kap σ * 103600) wI [.ref (w.1 13 0), .int (iI (p0)), .int (iI (p1)), .int (iI (p2))] w σ (fun a σ' => ∃ A', f_digest A p0 p1 p2 = (σ' 10 0 0, a, A') ∧ HM σ' A' ∧ FC σ σ') := by
  refine Cz.of (own := RX8) (lv := [(0, .ref (w.1 13 0)), (1, .int (iI (p0))), (2, .int (iI (p1))), (3, .int (iI (p2)))]) (by decide +kernel) rfl (Nat.le_of_ble_eq_true rfl) rfl (fun X hX hxl hR hcl hret => ?_)
  subst hxl
  have hQ : ∀ q, (14, q) ∈ mn σ 13 0 → w.2 14 q := fun q h => hcl 13 0 hk0 (14, q) h
  have hQ5 : ∀ q, (14, q) ∈ mn σ 13 0 → w.2 15 q := fun q h => hcl 14 q (hQ q h) (15, q) (by simp [mn, tp])
  have hQ16 : ∀ q, (16, q) ∈ mn σ 13 0 → w.2 16 q := fun q h => hcl 13 0 hk0 (16, q) h
  have hp0a := hp0.1
  have hp0b := hp0.2
  have hp1a := hp1.1
  have hp1b := hp1.2
  have hp2a := hp2.1
  have hp2b := hp2.2
  refine v_aload_n hX 0 rfl (atL dAX8_digest_0 0 rfl) ?_
  refine v_iload_n hX 2 rfl (atL dAX8_digest_0 1 rfl) ?_
  refine v_iload_n hX 3 rfl (atL dAX8_digest_0 2 rfl) ?_
  refine v_iload_n hX 3 rfl (atL dAX8_digest_0 3 rfl) ?_
  refine v_callV hX (As := [.int (iI (p1)), .int (iI (p2)), .int (iI (p2))]) (rest := []) (c_X8_are (xl X) w σ hk0 p1 hp1 p2 hp2 p2 hp2) lk_X8_240 hk0 (fun _ => rfl) rfl rfl rfl (by rw [hR]; exact ⟨Nat.le_of_ble_eq_true rfl, Nat.le_of_ble_eq_true rfl⟩) (by rw [hR]; exact (ZI.z : ZI (kap σ) (0, 0) σ).b) rfl (Nat.le_of_ble_eq_true rfl) (atL dAX8_digest_0 4 rfl) (fun r1 s1 g1 => ?_)
  obtain ⟨gs1, ht1, hG1, hA1, hD1⟩ := are_use g1 FG.rf hM.2.1 hM.2.2
  have gd1 : r1 = 0 ∨ r1 = 1 := by rcases gs1 with q | q <;> omega
  have hz1 := (ZI.z : ZI (kap σ) (0, 0) σ).k (t := s1) (are_4 g1)
  show V X _ w _ _ s1 [.int (iI (r1))]
  refine v_if_eq hX ⟨by omega, by omega⟩ (tgt := 18) (atL dAX8_digest_0 5 rfl) (by decide) (fun h7 => ?_) (fun h7 => ?_)
  · refine v_iconst hX (atL dAX8_digest_0 10 rfl) ?_
    exact v_iret hX (atL dAX8_digest_0 11 rfl) ((hret _ _ ⟨A, by rw [show s1 10 0 0 = 1 by omega]; unfold f_digest; rw [if_pos (by omega)], hM.same hG1 hA1 hD1, hG1.fc⟩ _ hz1))
  · refine v_aload_n hX 0 rfl (atL dAX8_digest_0 6 rfl) ?_
    refine v_iload_n hX 1 rfl (atL dAX8_digest_0 7 rfl) ?_
    refine v_callV hX (As := [.int (iI (p0))]) (rest := []) (c_X8_isHash (xl X) w s1 hk0 p0 hp0) lk_X8_342 hk0 (fun _ => rfl) rfl rfl rfl (by rw [hR]; exact ⟨Nat.le_of_ble_eq_true rfl, Nat.le_of_ble_eq_true rfl⟩) (by rw [hR]; exact hz1.b) rfl (Nat.le_of_ble_eq_true rfl) (atL dAX8_digest_0 8 rfl) (fun r2 s2 g2 => ?_)
    obtain ⟨gs2, ht2, hG2, hA2, hD2⟩ := ish_use g2 (by omega) hG1 hA1 hD1
    have gd2 : r2 = 0 ∨ r2 = 1 := by rcases gs2 with q | q <;> omega
    have hz2 := hz1.k (t := s2) (iss_4 g2)
    show V X _ w _ _ s2 [.int (iI (r2))]
    refine v_if_ne hX ⟨by omega, by omega⟩ (tgt := 20) (atL dAX8_digest_0 9 rfl) (by decide) (fun h15 => ?_) (fun h15 => ?_)
    · obtain ⟨sp1, rfl⟩ : ∃ q : Nat, p1 = (q : Int) := ⟨p1.toNat, by omega⟩
      obtain ⟨sp2, rfl⟩ : ∃ q : Nat, p2 = (q : Int) := ⟨p2.toNat, by omega⟩
      obtain ⟨lsp1, hlsp1⟩ : ∃ q, (A.1 sp1).length = q := ⟨_, rfl⟩
      have hqsp1 : lsp1 ≤ 256 := by rw [← hlsp1]; exact hM.1.len (by omega)
      have hbvsp1 : lb (rv (A.1 sp1)) 128 := rv_lb (hM.1.by (by omega)) (hM.1.len (by omega))
      obtain ⟨lsp2, hlsp2⟩ : ∃ q, (A.1 sp2).length = q := ⟨_, rfl⟩
      have hqsp2 : lsp2 ≤ 256 := by rw [← hlsp2]; exact hM.1.len (by omega)
      have hbvsp2 : lb (rv (A.1 sp2)) 128 := rv_lb (hM.1.by (by omega)) (hM.1.len (by omega))
      have hh : isH p0 := by omega
      have hhr : rI p0 := hp0
      have hlg := hl_ge p0
      have hl3 := hl_32 p0
      refine v_aload_n hX 0 rfl (atL dAX8_digest_0 12 rfl) ?_
      refine v_iload_n hX 2 rfl (atL dAX8_digest_0 13 rfl) ?_
      refine v_callV hX (As := [.int (iI ((sp1 : Int)))]) (rest := []) (c_X8_saysSlot (xl X) w s2 hk0 ([]) hD2.rd sp1 (by omega) (A.1 sp1) ((hM.1.fg hG2).1 sp1 (by omega)).1 (by rw [hlsp1]; show 0 + _ ≤ _; omega)) lk_X8_345 hk0 (fun _ => rfl) rfl rfl rfl (by rw [hR]; exact ⟨Nat.le_of_ble_eq_true rfl, Nat.le_of_ble_eq_true rfl⟩) (by rw [hR]; exact hz2.b) rfl (Nat.le_of_ble_eq_true rfl) (atL dAX8_digest_0 14 rfl) (fun _ s3 e3 => ?_)
      obtain ⟨hr3, gb3⟩ := e3
      rw [List.nil_append] at hr3
      have hl3 : (A.1 sp1).length = lsp1 := by exact hlsp1
      have hG3 := hG2.fd gb3
      have hA3 := hA2.fp gb3.1 rfl
      have hco3 := CO.fd hD2.2 gb3
      have ht3 : s3 10 0 0 = 0 := by rw [gb3.2 0 (by decide)]; omega
      have hz3 := hz2.k (t := s3) (gb3.2 4 (by decide))
      show V X _ w _ _ s3 []
      refine v_aload_n hX 0 rfl (atL dAX8_digest_0 15 rfl) ?_
      refine v_iload_n hX 1 rfl (atL dAX8_digest_0 16 rfl) ?_
      refine v_callVM hX (As := [.int (iI (p0))]) (rest := []) (c_X8_digests (xl X) w s3 hk0 hw19 hco3 p0 hh (A.1 sp1) hr3 (by rw [hl3]; omega)) lk_X8_348 hk0 (fun _ => rfl) rfl rfl rfl (by rw [hR]; exact ⟨Nat.le_of_ble_eq_true rfl, Nat.le_of_ble_eq_true rfl⟩) (by rw [hR]; exact hz3) rfl (Nat.le_of_ble_eq_true rfl) (atL dAX8_digest_0 17 rfl) (fun _ s4 e4 => ?_)
      obtain ⟨h54, h34, hck4, hg4⟩ := e4
      have hz4 := hz3.d hck4
      generalize (((0, 0) : Nat × Nat).1 + kap s3 * 10360, ((0, 0) : Nat × Nat).2 + kap s3 * 103600) = z4 at hz4 ⊢
      have hG4 := FDg.fg hG3 hg4
      have hA4 := FDg.an hA3 hg4
      have hD4 := hck4.dg h34
      have ht4 : s4 10 0 0 = 0 := by rw [hg4.2 0 (by decide) (by decide)]; omega
      show V X _ w _ _ s4 []
      refine v_aload_n hX 0 rfl (atL dAX8_digest_0 18 rfl) ?_
      refine v_callV hX (As := []) (rest := []) (c_X8_anew (xl X) w s4 hk0) lk_X8_254 hk0 (fun _ => rfl) rfl rfl rfl (by rw [hR]; exact ⟨Nat.le_of_ble_eq_true rfl, Nat.le_of_ble_eq_true rfl⟩) (by rw [hR]; exact hz4.b) rfl (Nat.le_of_ble_eq_true rfl) (atL dAX8_digest_0 19 rfl) (fun _ s5 e5 => ?_)
      obtain ⟨hr5, gb5⟩ := anew_use e5
      have hG5 := hG4.fp gb5
      have hA5 := hA4.fp gb5.1 rfl
      have hD5 := hD4.fp gb5
      have ht5 : s5 10 0 0 = 0 := by rw [gb5.2 0 (by decide)]; omega
      have hl5 : ([] : List Nat).length = 0 := rfl
      have hal5_5 : AW (s5 13 5) 0 (sha p0 (A.1 sp1)) := by rw [gb5.1 13 5 (by decide)]; exact h54
      have hc45 : s5 10 0 4 = 1 := Eq.trans (gb5.2 4 (by decide)) hck4.1
      have hz5 := hz4.k (t := s5) (gb5.2 4 (by decide))
      show V X _ w _ _ s5 []
      refine v_iconst hX (atL dAX8_digest_0 20 rfl) ?_
      refine v_istore hX (lv' := [(4, .int (iI (0))), (0, .ref (w.1 13 0)), (1, .int (iI (p0))), (2, .int (iI ((sp1 : Int)))), (3, .int (iI ((sp2 : Int))))]) (Nat.le_of_ble_eq_true rfl) rfl (atL dAX8_digest_0 21 rfl) ?_
      have loop6 : ∀ (d j : Nat) (t : St), j + d = hl p0 → RO t ((sha p0 (A.1 sp1)).take j) → FP s5 t → V X z4 w 37 [(4, .int (iI ((j : Int)))), (0, .ref (w.1 13 0)), (1, .int (iI (p0))), (2, .int (iI ((sp1 : Int)))), (3, .int (iI ((sp2 : Int))))] t [] := by
        intro d
        induction d with
        | zero =>
          intro j t hj hr hf
          have htt : t 10 0 0 = 0 := by rw [hf.2 0 (by decide)]; omega
          have hzt := hz5.k (t := t) (hf.2 4 (by decide))
          have hjN : j = hl p0 := by omega
          subst j
          rw [List.take_of_length_le (by rw [(sha_len : (sha p0 (A.1 sp1)).length = hl p0)]; exact Nat.le_refl _)] at hr
          refine v_iload hX 0 rfl (atL dAX8_digest_0 22 rfl) ?_
          refine v_iload_n hX 2 rfl (atL dAX8_digest_0 23 rfl) ?_
          refine v_callS hX (As := [.int (iI (p0))]) (rest := [.int (iI (((hl p0 : Nat) : Int)))]) (c_X8_long0 (xl X) w t p0 hhr) lk_X8_351 rfl (by rw [hR]; exact ⟨Nat.le_of_ble_eq_true rfl, Nat.le_of_ble_eq_true rfl⟩) (by rw [hR]; exact hzt.b) rfl (Nat.le_of_ble_eq_true rfl) (atL dAX8_digest_0 24 rfl) (fun r7 z7 g7 => ?_)
          obtain ⟨ga7, gb7⟩ := g7
          rw [gb7]
          subst ga7
          show V X _ w _ _ t [.int (iI ((hl p0 : Int))), .int (iI (((hl p0 : Nat) : Int)))]
          refine v_icmp_ge hX ⟨by omega, by omega⟩ ⟨by omega, by omega⟩ (tgt := 63) (atL dAX8_digest_0 25 rfl) (by decide) (fun h43 => ?_) (fun h43 => absurd h43 (by omega))
          refine v_aload_n hX 1 rfl (atL dAX8_digest_0 34 rfl) ?_
          refine v_iload_n hX 4 rfl (atL dAX8_digest_0 35 rfl) ?_
          refine v_callV hX (As := [.int (iI ((sp2 : Int)))]) (rest := []) (c_X8_writes (xl X) w t hk0 (sha p0 (A.1 sp1)) hr (by rw [(sha_len : (sha p0 (A.1 sp1)).length = hl p0)]; omega) sp2 (by omega)) lk_X8_257 hk0 (fun _ => rfl) rfl rfl rfl (by rw [hR]; exact ⟨Nat.le_of_ble_eq_true rfl, Nat.le_of_ble_eq_true rfl⟩) (by rw [hR]; exact hzt.b) rfl (Nat.le_of_ble_eq_true rfl) (atL dAX8_digest_0 36 rfl) (fun r8 s8 e8 => ?_)
          show V X _ w _ _ s8 [.int (iI (r8))]
          exact v_iret hX (atL dAX8_digest_0 37 rfl) ((hret _ _ (wr_post (t := sp2) (M := sha p0 (A.1 sp1)) (by unfold f_digest; simp only [Int.toNat_natCast]; rw [if_neg (by omega), if_neg (by omega)]; rw [sha_len]) sha_lt hM (hG5.fp hf) (hA5.fp hf.1 rfl) (hD5.fp hf) (by omega) (by omega) e8) _ (hzt.k (congrFun (e8.2.2.2.2 10 0 (by decide)) 4))))
        | succ d ih =>
          intro j t hj hr hf
          have htt : t 10 0 0 = 0 := by rw [hf.2 0 (by decide)]; omega
          have hzt := hz5.k (t := t) (hf.2 4 (by decide))
          have hpj : t 13 5 j = (((sha p0 (A.1 sp1)).getD j 0 : Nat) : Int) := by rw [hf.1 13 5 (by decide)]; exact hal5_5.get (by rw [(sha_len : (sha p0 (A.1 sp1)).length = hl p0)]; omega)
          refine v_iload hX 0 rfl (atL dAX8_digest_0 22 rfl) ?_
          refine v_iload_n hX 2 rfl (atL dAX8_digest_0 23 rfl) ?_
          refine v_callS hX (As := [.int (iI (p0))]) (rest := [.int (iI ((j : Int)))]) (c_X8_long0 (xl X) w t p0 hhr) lk_X8_351 rfl (by rw [hR]; exact ⟨Nat.le_of_ble_eq_true rfl, Nat.le_of_ble_eq_true rfl⟩) (by rw [hR]; exact hzt.b) rfl (Nat.le_of_ble_eq_true rfl) (atL dAX8_digest_0 24 rfl) (fun r9 z9 g9 => ?_)
          obtain ⟨ga9, gb9⟩ := g9
          rw [gb9]
          subst ga9
          show V X _ w _ _ t [.int (iI ((hl p0 : Int))), .int (iI ((j : Int)))]
          refine v_icmp_ge hX ⟨by omega, by omega⟩ ⟨by omega, by omega⟩ (tgt := 63) (atL dAX8_digest_0 25 rfl) (by decide) (fun h43 => absurd h43 (by omega)) (fun h43 => ?_)
          refine v_aload_n hX 1 rfl (atL dAX8_digest_0 26 rfl) ?_
          refine v_aload_n hX 1 rfl (atL dAX8_digest_0 27 rfl) ?_
          refine gf_X8_98 hX hk0 (atL dAX8_digest_0 28 rfl) ?_
          refine v_iload hX 0 rfl (atL dAX8_digest_0 29 rfl) ?_
          refine v_iald hX (r := iI ((((sha p0 (A.1 sp1)).getD j 0 : Nat) : Int))) j (hQ16 5 (by simp [mn, tp])) (fun _ => rfl) rfl (show j < 32 by omega) (by decide) (congrArg iI hpj) (atL dAX8_digest_0 30 rfl) ?_
          refine v_callV hX (As := [.int (iI ((((sha p0 (A.1 sp1)).getD j 0 : Nat) : Int)))]) (rest := []) (c_X8_puts (xl X) w t hk0 ((sha p0 (A.1 sp1)).take j) hr (by rw [(by rw [List.length_take, (sha_len : (sha p0 (A.1 sp1)).length = hl p0)]; omega : ((sha p0 (A.1 sp1)).take j).length = j)]; omega) ((sha p0 (A.1 sp1)).getD j 0)) lk_X8_251 hk0 (fun _ => rfl) rfl rfl rfl (by rw [hR]; exact ⟨Nat.le_of_ble_eq_true rfl, Nat.le_of_ble_eq_true rfl⟩) (by rw [hR]; exact hzt.b) rfl (Nat.le_of_ble_eq_true rfl) (atL dAX8_digest_0 31 rfl) (fun _ s10 e10 => ?_)
          obtain ⟨hr10, gb10⟩ := e10
          have hG10 := (hG5.fp hf).fp gb10
          have hA10 := (hA5.fp hf.1 rfl).fp gb10.1 rfl
          have hD10 := (hD5.fp hf).fp gb10
          have ht10 : s10 10 0 0 = 0 := by rw [gb10.2 0 (by decide)]; omega
          have hl10 : ((sha p0 (A.1 sp1)).take j ++ [(sha p0 (A.1 sp1)).getD j 0]).length = j + 1 := by rw [List.length_append, (by rw [List.length_take, (sha_len : (sha p0 (A.1 sp1)).length = hl p0)]; omega : ((sha p0 (A.1 sp1)).take j).length = j)]; rfl
          have hz10 := hzt.k (t := s10) (gb10.2 4 (by decide))
          show V X _ w _ _ s10 []
          refine v_iinc hX (lv' := [(4, .int (iI (((j : Int)) + 1))), (0, .ref (w.1 13 0)), (1, .int (iI (p0))), (2, .int (iI ((sp1 : Int)))), (3, .int (iI ((sp2 : Int))))]) 0 rfl (iI_add _ _) (Nat.le_of_ble_eq_true rfl) rfl (atL dAX8_digest_0 32 rfl) ?_
          refine v_goto hX (tgt := 37) (atL dAX8_digest_0 33 rfl) (by decide) ?_
          refine v_sub (lv' := [(4, .int (iI (((j : Int)) + 1))), (0, .ref (w.1 13 0)), (1, .int (iI (p0))), (2, .int (iI ((sp1 : Int)))), (3, .int (iI ((sp2 : Int))))]) [0, 1, 2, 3, 4] rfl ?_
          rw [show (j : Int) + 1 = ((j + 1 : Nat) : Int) by omega]
          rw [take_get2 (by rw [(sha_len : (sha p0 (A.1 sp1)).length = hl p0)]; omega)] at hr10
          exact ih (j + 1) _ (by omega) hr10 (hf.tr gb10)
      refine v_sub (lv' := [(4, .int (iI (0))), (0, .ref (w.1 13 0)), (1, .int (iI (p0))), (2, .int (iI ((sp1 : Int)))), (3, .int (iI ((sp2 : Int))))]) [0, 1, 2, 3, 4] rfl ?_
      exact loop6 (hl p0) 0 s5 (by omega) (by rw [List.take_zero]; exact hr5) FP.rf
    · refine v_iconst hX (atL dAX8_digest_0 10 rfl) ?_
      exact v_iret hX (atL dAX8_digest_0 11 rfl) ((hret _ _ ⟨A, by rw [show s2 10 0 0 = 2 by omega]; unfold f_digest; rw [if_neg (by omega), if_pos (by omega)], hM.same hG2 hA2 hD2, hG2.fc⟩ _ hz2))

set_option maxHeartbeats 1000000 in
set_option maxRecDepth 100000 in
theorem c_X8_mask [Gh] (l : Launch) (w : Wl) (σ : St) (hk0 : w.2 13 0) (hw19 : ∀ q, w.2 19 q → q < 4096) (A : Ab) (hM : HM σ A) (p0 : Int) (hp0 : rI p0) (p1 : Int) (hp1 : rI p1) (p2 : Int) (hp2 : rI p2) (p3 : Int) (hp3 : rI p3) : Cz l yX8_mask cX8_mask 6 (Option.some Jvm.ClassFile.FieldType.int) 5 130 (kap σ * 10360) (kap σ * 103600) wI [.ref (w.1 13 0), .int (iI (p0)), .int (iI (p1)), .int (iI (p2)), .int (iI (p3))] w σ (fun a σ' => ∃ A', f_mask A p0 p1 p2 p3 = (σ' 10 0 0, a, A') ∧ HM σ' A' ∧ FC σ σ') := by
  refine Cz.of (own := RX8) (lv := [(0, .ref (w.1 13 0)), (1, .int (iI (p0))), (2, .int (iI (p1))), (3, .int (iI (p2))), (4, .int (iI (p3)))]) (by decide +kernel) rfl (Nat.le_of_ble_eq_true rfl) rfl (fun X hX hxl hR hcl hret => ?_)
  subst hxl
  have hQ : ∀ q, (14, q) ∈ mn σ 13 0 → w.2 14 q := fun q h => hcl 13 0 hk0 (14, q) h
  have hQ5 : ∀ q, (14, q) ∈ mn σ 13 0 → w.2 15 q := fun q h => hcl 14 q (hQ q h) (15, q) (by simp [mn, tp])
  have hQ16 : ∀ q, (16, q) ∈ mn σ 13 0 → w.2 16 q := fun q h => hcl 13 0 hk0 (16, q) h
  have hp0a := hp0.1
  have hp0b := hp0.2
  have hp1a := hp1.1
  have hp1b := hp1.2
  have hp2a := hp2.1
  have hp2b := hp2.2
  have hp3a := hp3.1
  have hp3b := hp3.2
  refine v_aload_n hX 0 rfl (atL dAX8_mask_0 0 rfl) ?_
  refine v_iload_n hX 2 rfl (atL dAX8_mask_0 1 rfl) ?_
  refine v_iload hX 4 rfl (atL dAX8_mask_0 2 rfl) ?_
  refine v_iload hX 4 rfl (atL dAX8_mask_0 3 rfl) ?_
  refine v_callV hX (As := [.int (iI (p1)), .int (iI (p3)), .int (iI (p3))]) (rest := []) (c_X8_are (xl X) w σ hk0 p1 hp1 p3 hp3 p3 hp3) lk_X8_240 hk0 (fun _ => rfl) rfl rfl rfl (by rw [hR]; exact ⟨Nat.le_of_ble_eq_true rfl, Nat.le_of_ble_eq_true rfl⟩) (by rw [hR]; exact (ZI.z : ZI (kap σ) (0, 0) σ).b) rfl (Nat.le_of_ble_eq_true rfl) (atL dAX8_mask_0 4 rfl) (fun r1 s1 g1 => ?_)
  obtain ⟨gs1, ht1, hG1, hA1, hD1⟩ := are_use g1 FG.rf hM.2.1 hM.2.2
  have gd1 : r1 = 0 ∨ r1 = 1 := by rcases gs1 with q | q <;> omega
  have hz1 := (ZI.z : ZI (kap σ) (0, 0) σ).k (t := s1) (are_4 g1)
  show V X _ w _ _ s1 [.int (iI (r1))]
  refine v_if_eq hX ⟨by omega, by omega⟩ (tgt := 44) (atL dAX8_mask_0 5 rfl) (by decide) (fun h9 => ?_) (fun h9 => ?_)
  · refine v_iconst hX (atL dAX8_mask_0 22 rfl) ?_
    exact v_iret hX (atL dAX8_mask_0 23 rfl) ((hret _ _ ⟨A, by rw [show s1 10 0 0 = 1 by omega]; unfold f_mask; rw [if_pos (by omega)], hM.same hG1 hA1 hD1, hG1.fc⟩ _ hz1))
  · obtain ⟨sp1, rfl⟩ : ∃ q : Nat, p1 = (q : Int) := ⟨p1.toNat, by omega⟩
    obtain ⟨sp3, rfl⟩ : ∃ q : Nat, p3 = (q : Int) := ⟨p3.toNat, by omega⟩
    obtain ⟨lsp1, hlsp1⟩ : ∃ q, (A.1 sp1).length = q := ⟨_, rfl⟩
    have hqsp1 : lsp1 ≤ 256 := by rw [← hlsp1]; exact hM.1.len (by omega)
    have hbvsp1 : lb (rv (A.1 sp1)) 128 := rv_lb (hM.1.by (by omega)) (hM.1.len (by omega))
    obtain ⟨lsp3, hlsp3⟩ : ∃ q, (A.1 sp3).length = q := ⟨_, rfl⟩
    have hqsp3 : lsp3 ≤ 256 := by rw [← hlsp3]; exact hM.1.len (by omega)
    have hbvsp3 : lb (rv (A.1 sp3)) 128 := rv_lb (hM.1.by (by omega)) (hM.1.len (by omega))
    refine v_aload_n hX 0 rfl (atL dAX8_mask_0 6 rfl) ?_
    refine v_iload_n hX 1 rfl (atL dAX8_mask_0 7 rfl) ?_
    refine v_if_lt hX ⟨by omega, by omega⟩ (tgt := 33) (atL dAX8_mask_0 8 rfl) (by decide) (fun h14 => ?_) (fun h14 => ?_)
    · refine v_iconst hX (atL dAX8_mask_0 17 rfl) ?_
      refine v_goto hX (tgt := 38) (atL dAX8_mask_0 18 rfl) (by decide) ?_
      refine v_callV hX (As := [.int (iI (1))]) (rest := []) (c_X8_bad (xl X) w s1 hk0 1 (by decide)) lk_X8_244 hk0 (fun _ => rfl) rfl rfl rfl (by rw [hR]; exact ⟨Nat.le_of_ble_eq_true rfl, Nat.le_of_ble_eq_true rfl⟩) (by rw [hR]; exact hz1.b) rfl (Nat.le_of_ble_eq_true rfl) (atL dAX8_mask_0 20 rfl) (fun r2 s2 g2 => ?_)
      obtain ⟨gs2, ht2, hG2, hA2, hD2⟩ := bad_use g2 (by omega) hG1 hA1 hD1
      have hz2 := hz1.k (t := s2) (bad_4 g2)
      subst gs2
      show V X _ w _ _ s2 [.int (iI (1))]
      refine v_if_eq hX ⟨by omega, by omega⟩ (tgt := 46) (atL dAX8_mask_0 21 rfl) (by decide) (fun h41 => absurd h41 (by omega)) (fun h41 => ?_)
      refine v_iconst hX (atL dAX8_mask_0 22 rfl) ?_
      exact v_iret hX (atL dAX8_mask_0 23 rfl) ((hret _ _ ⟨A, by rw [show s2 10 0 0 = 2 by omega]; unfold f_mask; rw [if_neg (by omega), if_pos (by omega)], hM.same hG2 hA2 hD2, hG2.fc⟩ _ hz2))
    · refine v_iload_n hX 1 rfl (atL dAX8_mask_0 9 rfl) ?_
      refine v_iconst hX (atL dAX8_mask_0 10 rfl) ?_
      refine v_icmp_gt hX ⟨by omega, by omega⟩ ⟨by omega, by omega⟩ (tgt := 33) (atL dAX8_mask_0 11 rfl) (by decide) (fun h19 => ?_) (fun h19 => ?_)
      · refine v_iconst hX (atL dAX8_mask_0 17 rfl) ?_
        refine v_goto hX (tgt := 38) (atL dAX8_mask_0 18 rfl) (by decide) ?_
        refine v_callV hX (As := [.int (iI (1))]) (rest := []) (c_X8_bad (xl X) w s1 hk0 1 (by decide)) lk_X8_244 hk0 (fun _ => rfl) rfl rfl rfl (by rw [hR]; exact ⟨Nat.le_of_ble_eq_true rfl, Nat.le_of_ble_eq_true rfl⟩) (by rw [hR]; exact hz1.b) rfl (Nat.le_of_ble_eq_true rfl) (atL dAX8_mask_0 20 rfl) (fun r3 s3 g3 => ?_)
        obtain ⟨gs3, ht3, hG3, hA3, hD3⟩ := bad_use g3 (by omega) hG1 hA1 hD1
        have hz3 := hz1.k (t := s3) (bad_4 g3)
        subst gs3
        show V X _ w _ _ s3 [.int (iI (1))]
        refine v_if_eq hX ⟨by omega, by omega⟩ (tgt := 46) (atL dAX8_mask_0 21 rfl) (by decide) (fun h41 => absurd h41 (by omega)) (fun h41 => ?_)
        refine v_iconst hX (atL dAX8_mask_0 22 rfl) ?_
        exact v_iret hX (atL dAX8_mask_0 23 rfl) ((hret _ _ ⟨A, by rw [show s3 10 0 0 = 2 by omega]; unfold f_mask; rw [if_neg (by omega), if_pos (by omega)], hM.same hG3 hA3 hD3, hG3.fc⟩ _ hz3))
      · refine v_iload_n hX 3 rfl (atL dAX8_mask_0 12 rfl) ?_
        refine v_if_lt hX ⟨by omega, by omega⟩ (tgt := 33) (atL dAX8_mask_0 13 rfl) (by decide) (fun h23 => ?_) (fun h23 => ?_)
        · refine v_iconst hX (atL dAX8_mask_0 17 rfl) ?_
          refine v_goto hX (tgt := 38) (atL dAX8_mask_0 18 rfl) (by decide) ?_
          refine v_callV hX (As := [.int (iI (1))]) (rest := []) (c_X8_bad (xl X) w s1 hk0 1 (by decide)) lk_X8_244 hk0 (fun _ => rfl) rfl rfl rfl (by rw [hR]; exact ⟨Nat.le_of_ble_eq_true rfl, Nat.le_of_ble_eq_true rfl⟩) (by rw [hR]; exact hz1.b) rfl (Nat.le_of_ble_eq_true rfl) (atL dAX8_mask_0 20 rfl) (fun r4 s4 g4 => ?_)
          obtain ⟨gs4, ht4, hG4, hA4, hD4⟩ := bad_use g4 (by omega) hG1 hA1 hD1
          have hz4 := hz1.k (t := s4) (bad_4 g4)
          subst gs4
          show V X _ w _ _ s4 [.int (iI (1))]
          refine v_if_eq hX ⟨by omega, by omega⟩ (tgt := 46) (atL dAX8_mask_0 21 rfl) (by decide) (fun h41 => absurd h41 (by omega)) (fun h41 => ?_)
          refine v_iconst hX (atL dAX8_mask_0 22 rfl) ?_
          exact v_iret hX (atL dAX8_mask_0 23 rfl) ((hret _ _ ⟨A, by rw [show s4 10 0 0 = 2 by omega]; unfold f_mask; rw [if_neg (by omega), if_pos (by omega)], hM.same hG4 hA4 hD4, hG4.fc⟩ _ hz4))
        · refine v_iload_n hX 3 rfl (atL dAX8_mask_0 14 rfl) ?_
          refine v_sipush hX (by decide +kernel) (atL dAX8_mask_0 15 rfl) ?_
          refine v_icmp_le hX ⟨by omega, by omega⟩ ⟨by omega, by omega⟩ (tgt := 37) (atL dAX8_mask_0 16 rfl) (by decide) (fun h30 => ?_) (fun h30 => ?_)
          · refine v_iconst hX (atL dAX8_mask_0 19 rfl) ?_
            refine v_callV hX (As := [.int (iI (0))]) (rest := []) (c_X8_bad (xl X) w s1 hk0 0 (by decide)) lk_X8_244 hk0 (fun _ => rfl) rfl rfl rfl (by rw [hR]; exact ⟨Nat.le_of_ble_eq_true rfl, Nat.le_of_ble_eq_true rfl⟩) (by rw [hR]; exact hz1.b) rfl (Nat.le_of_ble_eq_true rfl) (atL dAX8_mask_0 20 rfl) (fun r5 s5 g5 => ?_)
            obtain ⟨gs5, ht5, hG5, hA5, hD5⟩ := bad_use g5 (by omega) hG1 hA1 hD1
            have hz5 := hz1.k (t := s5) (bad_4 g5)
            subst gs5
            show V X _ w _ _ s5 [.int (iI (0))]
            refine v_if_eq hX ⟨by omega, by omega⟩ (tgt := 46) (atL dAX8_mask_0 21 rfl) (by decide) (fun h41 => ?_) (fun h41 => absurd h41 (by omega))
            have hh : isH p0 := by omega
            have hhr : rI p0 := hp0
            have hlg := hl_ge p0
            have hl3 := hl_32 p0
            obtain ⟨i2, rfl⟩ : ∃ q : Nat, p2 = (q : Int) := ⟨p2.toNat, by omega⟩
            refine v_aload_n hX 0 rfl (atL dAX8_mask_0 24 rfl) ?_
            refine v_iload_n hX 1 rfl (atL dAX8_mask_0 25 rfl) ?_
            refine v_aload_n hX 0 rfl (atL dAX8_mask_0 26 rfl) ?_
            refine gf_X8_67 hX hk0 (atL dAX8_mask_0 27 rfl) ?_
            refine v_sipush hX (by decide +kernel) (atL dAX8_mask_0 28 rfl) ?_
            refine v_iload_n hX 2 rfl (atL dAX8_mask_0 29 rfl) ?_
            refine v_imul hX (iI_mul _ _) (atL dAX8_mask_0 30 rfl) ?_
            rw [show (256 * ((sp1 : Int))) = ((256 * sp1 : Nat) : Int) from (by omega)]
            refine v_aload_n hX 0 rfl (atL dAX8_mask_0 31 rfl) ?_
            refine gf_X8_71 hX hk0 (atL dAX8_mask_0 32 rfl) ?_
            refine v_iload_n hX 2 rfl (atL dAX8_mask_0 33 rfl) ?_
            refine v_iald hX (r := iI (((lsp1 : Nat) : Int))) sp1 (hQ16 1 (by simp [mn, tp])) (fun _ => rfl) rfl (show sp1 < 24 by omega) (by decide) (congrArg iI (((hM.1.fg hG5).1 sp1 (by omega)).1.1.trans (by rw [hlsp1]))) (atL dAX8_mask_0 34 rfl) ?_
            refine v_iload_n hX 3 rfl (atL dAX8_mask_0 35 rfl) ?_
            refine v_callVZ hX (As := [.int (iI (p0)), .ref (w.1 16 0), .int (iI (((256 * sp1 : Nat) : Int))), .int (iI (((lsp1 : Nat) : Int))), .int (iI ((i2 : Int)))]) (rest := []) (c_X8_masksZ (xl X) w s5 hk0 hw19 hD5 p0 hh 0 (hQ16 0 (by simp [mn, tp])) (by decide) (A.1 sp1) ((256 * sp1)) lsp1 hlsp1 ((hM.1.fg hG5).1 sp1 (by omega)).1.2.2 (by show _ ≤ 6144; omega) (by omega) i2 (by omega)) lk_X8_354 hk0 (fun _ => rfl) rfl rfl rfl (by rw [hR]; exact ⟨Nat.le_of_ble_eq_true rfl, Nat.le_of_ble_eq_true rfl⟩) (by rw [hR]; exact hz5) rfl (Nat.le_of_ble_eq_true rfl) (atL dAX8_mask_0 36 rfl) (fun _ s6 e6 hk6 => ?_)
            obtain ⟨hm6, hD6, hck6, hg6⟩ := e6
            have hz6 : ZI (kap σ) (((0, 0) : Nat × Nat).1 + (kap s5 * 10360 - kap s6 * 10360), ((0, 0) : Nat × Nat).2 + (kap s5 * 103600 - kap s6 * 103600)) s6 := ⟨by show 0 + (kap s5 * 10360 - kap s6 * 10360) + kap s6 * 10360 ≤ kap σ * 10360; have h1 : 0 + kap s5 * 10360 ≤ kap σ * 10360 := hz5.1; omega, by show 0 + (kap s5 * 103600 - kap s6 * 103600) + kap s6 * 103600 ≤ kap σ * 103600; have h1 : 0 + kap s5 * 103600 ≤ kap σ * 103600 := hz5.2; omega⟩
            generalize (((0, 0) : Nat × Nat).1 + (kap s5 * 10360 - kap s6 * 10360), ((0, 0) : Nat × Nat).2 + (kap s5 * 103600 - kap s6 * 103600)) = z6 at hz6 ⊢
            have hG6 := FMk.fg hG5 hg6
            have hA6 := hA5.fp hg6.1 rfl
            have ht6 : s6 10 0 0 = 0 := by rw [hg6.2 0 (by decide) (by decide)]; omega
            show V X _ w _ _ s6 []
            refine v_aload_n hX 0 rfl (atL dAX8_mask_0 37 rfl) ?_
            refine v_callV hX (As := []) (rest := []) (c_X8_anew (xl X) w s6 hk0) lk_X8_254 hk0 (fun _ => rfl) rfl rfl rfl (by rw [hR]; exact ⟨Nat.le_of_ble_eq_true rfl, Nat.le_of_ble_eq_true rfl⟩) (by rw [hR]; exact hz6.b) rfl (Nat.le_of_ble_eq_true rfl) (atL dAX8_mask_0 38 rfl) (fun _ s7 e7 => ?_)
            obtain ⟨hr7, gb7⟩ := anew_use e7
            have hG7 := hG6.fp gb7
            have hA7 := hA6.fp gb7.1 rfl
            have hD7 := hD6.fp gb7
            have ht7 : s7 10 0 0 = 0 := by rw [gb7.2 0 (by decide)]; omega
            have hl7 : ([] : List Nat).length = 0 := rfl
            have hal7_10 : AW (s7 13 10) 0 (msk p0 (A.1 sp1) i2) := by rw [gb7.1 13 10 (by decide)]; exact hm6
            show V X _ w _ _ s7 []
            refine v_iconst hX (atL dAX8_mask_0 39 rfl) ?_
            refine v_istore hX (lv' := [(5, .int (iI (0))), (0, .ref (w.1 13 0)), (1, .int (iI (p0))), (2, .int (iI ((sp1 : Int)))), (3, .int (iI ((i2 : Int)))), (4, .int (iI ((sp3 : Int))))]) (Nat.le_of_ble_eq_true rfl) rfl (atL dAX8_mask_0 40 rfl) ?_
            have loop8 : ∀ (d j : Nat) (t : St), j + d = i2 → RO t ((msk p0 (A.1 sp1) i2).take j) → FP s7 t → V X z6 w 74 [(5, .int (iI ((j : Int)))), (0, .ref (w.1 13 0)), (1, .int (iI (p0))), (2, .int (iI ((sp1 : Int)))), (3, .int (iI ((i2 : Int)))), (4, .int (iI ((sp3 : Int))))] t [] := by
              intro d
              induction d with
              | zero =>
                intro j t hj hr hf
                have htt : t 10 0 0 = 0 := by rw [hf.2 0 (by decide)]; omega
                have hzt := hz6.b
                have hjN : j = i2 := by omega
                subst j
                rw [List.take_of_length_le (by rw [(msk_len : (msk p0 (A.1 sp1) i2).length = i2)]; exact Nat.le_refl _)] at hr
                refine v_iload hX 0 rfl (atL dAX8_mask_0 41 rfl) ?_
                refine v_iload_n hX 4 rfl (atL dAX8_mask_0 42 rfl) ?_
                refine v_icmp_ge hX ⟨by omega, by omega⟩ ⟨by omega, by omega⟩ (tgt := 97) (atL dAX8_mask_0 43 rfl) (by decide) (fun h77 => ?_) (fun h77 => absurd h77 (by omega))
                refine v_aload_n hX 1 rfl (atL dAX8_mask_0 52 rfl) ?_
                refine v_iload hX 5 rfl (atL dAX8_mask_0 53 rfl) ?_
                refine v_callV hX (As := [.int (iI ((sp3 : Int)))]) (rest := []) (c_X8_writes (xl X) w t hk0 (msk p0 (A.1 sp1) i2) hr (by rw [(msk_len : (msk p0 (A.1 sp1) i2).length = i2)]; omega) sp3 (by omega)) lk_X8_257 hk0 (fun _ => rfl) rfl rfl rfl (by rw [hR]; exact ⟨Nat.le_of_ble_eq_true rfl, Nat.le_of_ble_eq_true rfl⟩) (by rw [hR]; exact hzt) rfl (Nat.le_of_ble_eq_true rfl) (atL dAX8_mask_0 54 rfl) (fun r9 s9 e9 => ?_)
                show V X _ w _ _ s9 [.int (iI (r9))]
                exact v_iret hX (atL dAX8_mask_0 55 rfl) ((hret _ _ (wr_post (t := sp3) (M := msk p0 (A.1 sp1) i2) (by unfold f_mask; simp only [Int.toNat_natCast]; rw [if_neg (by omega), if_neg (by omega)]; rw [msk_len]) msk_by hM (hG7.fp hf) (hA7.fp hf.1 rfl) (hD7.fp hf) (by omega) (by omega) e9) _ (hz6.k ((congrFun (e9.2.2.2.2 10 0 (by decide)) 4).trans ((hf.2 4 (by decide)).trans (gb7.2 4 (by decide)))))))
              | succ d ih =>
                intro j t hj hr hf
                have htt : t 10 0 0 = 0 := by rw [hf.2 0 (by decide)]; omega
                have hzt := hz6.b
                have hpj : t 13 10 j = (((msk p0 (A.1 sp1) i2).getD j 0 : Nat) : Int) := by rw [hf.1 13 10 (by decide)]; exact hal7_10.get (by rw [(msk_len : (msk p0 (A.1 sp1) i2).length = i2)]; omega)
                refine v_iload hX 0 rfl (atL dAX8_mask_0 41 rfl) ?_
                refine v_iload_n hX 4 rfl (atL dAX8_mask_0 42 rfl) ?_
                refine v_icmp_ge hX ⟨by omega, by omega⟩ ⟨by omega, by omega⟩ (tgt := 97) (atL dAX8_mask_0 43 rfl) (by decide) (fun h77 => absurd h77 (by omega)) (fun h77 => ?_)
                refine v_aload_n hX 1 rfl (atL dAX8_mask_0 44 rfl) ?_
                refine v_aload_n hX 1 rfl (atL dAX8_mask_0 45 rfl) ?_
                refine gf_X8_113 hX hk0 (atL dAX8_mask_0 46 rfl) ?_
                refine v_iload hX 0 rfl (atL dAX8_mask_0 47 rfl) ?_
                refine v_iald hX (r := iI ((((msk p0 (A.1 sp1) i2).getD j 0 : Nat) : Int))) j (hQ16 10 (by simp [mn, tp])) (fun _ => rfl) rfl (show j < 512 by omega) (by decide) (congrArg iI hpj) (atL dAX8_mask_0 48 rfl) ?_
                refine v_callV hX (As := [.int (iI ((((msk p0 (A.1 sp1) i2).getD j 0 : Nat) : Int)))]) (rest := []) (c_X8_puts (xl X) w t hk0 ((msk p0 (A.1 sp1) i2).take j) hr (by rw [(by rw [List.length_take, (msk_len : (msk p0 (A.1 sp1) i2).length = i2)]; omega : ((msk p0 (A.1 sp1) i2).take j).length = j)]; omega) ((msk p0 (A.1 sp1) i2).getD j 0)) lk_X8_251 hk0 (fun _ => rfl) rfl rfl rfl (by rw [hR]; exact ⟨Nat.le_of_ble_eq_true rfl, Nat.le_of_ble_eq_true rfl⟩) (by rw [hR]; exact hzt) rfl (Nat.le_of_ble_eq_true rfl) (atL dAX8_mask_0 49 rfl) (fun _ s10 e10 => ?_)
                obtain ⟨hr10, gb10⟩ := e10
                have hG10 := (hG7.fp hf).fp gb10
                have hA10 := (hA7.fp hf.1 rfl).fp gb10.1 rfl
                have hD10 := (hD7.fp hf).fp gb10
                have ht10 : s10 10 0 0 = 0 := by rw [gb10.2 0 (by decide)]; omega
                have hl10 : ((msk p0 (A.1 sp1) i2).take j ++ [(msk p0 (A.1 sp1) i2).getD j 0]).length = j + 1 := by rw [List.length_append, (by rw [List.length_take, (msk_len : (msk p0 (A.1 sp1) i2).length = i2)]; omega : ((msk p0 (A.1 sp1) i2).take j).length = j)]; rfl
                show V X _ w _ _ s10 []
                refine v_iinc hX (lv' := [(5, .int (iI (((j : Int)) + 1))), (0, .ref (w.1 13 0)), (1, .int (iI (p0))), (2, .int (iI ((sp1 : Int)))), (3, .int (iI ((i2 : Int)))), (4, .int (iI ((sp3 : Int))))]) 0 rfl (iI_add _ _) (Nat.le_of_ble_eq_true rfl) rfl (atL dAX8_mask_0 50 rfl) ?_
                refine v_goto hX (tgt := 74) (atL dAX8_mask_0 51 rfl) (by decide) ?_
                refine v_sub (lv' := [(5, .int (iI (((j : Int)) + 1))), (0, .ref (w.1 13 0)), (1, .int (iI (p0))), (2, .int (iI ((sp1 : Int)))), (3, .int (iI ((i2 : Int)))), (4, .int (iI ((sp3 : Int))))]) [0, 1, 2, 3, 4, 5] rfl ?_
                rw [show (j : Int) + 1 = ((j + 1 : Nat) : Int) by omega]
                rw [take_get2 (by rw [(msk_len : (msk p0 (A.1 sp1) i2).length = i2)]; omega)] at hr10
                exact ih (j + 1) _ (by omega) hr10 (hf.tr gb10)
            refine v_sub (lv' := [(5, .int (iI (0))), (0, .ref (w.1 13 0)), (1, .int (iI (p0))), (2, .int (iI ((sp1 : Int)))), (3, .int (iI ((i2 : Int)))), (4, .int (iI ((sp3 : Int))))]) [0, 1, 2, 3, 4, 5] rfl ?_
            exact loop8 (i2) 0 s7 (by omega) (by rw [List.take_zero]; exact hr7) FP.rf
          · refine v_iconst hX (atL dAX8_mask_0 17 rfl) ?_
            refine v_goto hX (tgt := 38) (atL dAX8_mask_0 18 rfl) (by decide) ?_
            refine v_callV hX (As := [.int (iI (1))]) (rest := []) (c_X8_bad (xl X) w s1 hk0 1 (by decide)) lk_X8_244 hk0 (fun _ => rfl) rfl rfl rfl (by rw [hR]; exact ⟨Nat.le_of_ble_eq_true rfl, Nat.le_of_ble_eq_true rfl⟩) (by rw [hR]; exact hz1.b) rfl (Nat.le_of_ble_eq_true rfl) (atL dAX8_mask_0 20 rfl) (fun r11 s11 g11 => ?_)
            obtain ⟨gs11, ht11, hG11, hA11, hD11⟩ := bad_use g11 (by omega) hG1 hA1 hD1
            have hz11 := hz1.k (t := s11) (bad_4 g11)
            subst gs11
            show V X _ w _ _ s11 [.int (iI (1))]
            refine v_if_eq hX ⟨by omega, by omega⟩ (tgt := 46) (atL dAX8_mask_0 21 rfl) (by decide) (fun h41 => absurd h41 (by omega)) (fun h41 => ?_)
            refine v_iconst hX (atL dAX8_mask_0 22 rfl) ?_
            exact v_iret hX (atL dAX8_mask_0 23 rfl) ((hret _ _ ⟨A, by rw [show s11 10 0 0 = 2 by omega]; unfold f_mask; rw [if_neg (by omega), if_pos (by omega)], hM.same hG11 hA11 hD11, hG11.fc⟩ _ hz11))
