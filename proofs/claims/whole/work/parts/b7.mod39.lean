theorem eqd_tk {F G : List Nat} {n : Nat} {v : Int} (h : EQd F G n v) (hF : n ≤ F.length) (hG : G.length = n) : tf v (F.take n = G) := by
  have e : (∀ q, q < n → F.getD q 0 = G.getD q 0) ↔ F.take n = G := by
    constructor
    · intro g
      refine list_ext (by rw [List.length_take]; omega) (fun j hj => ?_)
      rw [List.length_take] at hj
      rw [gD_take, if_pos (by omega)]
      exact g j (by omega)
    · intro g q hq
      rw [← g, gD_take, if_pos hq]
  rcases h with ⟨h, g⟩ | ⟨h, g⟩
  · exact Or.inl ⟨h, e.mp g⟩
  · exact Or.inr ⟨h, fun q => g (e.mpr q)⟩
theorem drop_app {A B : List Nat} {n m : Nat} (h : A.length + m = n) : (A ++ B).drop n = B.drop m := by
  subst h
  refine list_ext (by rw [List.length_drop, List.length_drop, List.length_append]; omega) (fun j hj => ?_)
  rw [gD_drop, gD_drop, gD_app, if_neg (by omega)]
  congr 1
  omega
theorem showS_len {h : Int} {F : List Nat} (hF : 2 * hl h + 2 ≤ F.length) : (showS h F).length = hl h := by
  unfold showS
  rw [mix_len, List.length_take, List.length_drop]
  omega
theorem showX_len {h : Int} {F : List Nat} (hF : 2 * hl h + 2 ≤ F.length) : (showX h F).length = F.length - hl h - 1 := by
  unfold showX
  rw [List.length_take, List.length_drop]
  omega
theorem showX_drop {h : Int} {F : List Nat} : showX h F = F.drop (1 + hl h) := drop_take_all (by omega)
theorem showD_len {h : Int} {F : List Nat} (hF : 2 * hl h + 2 ≤ F.length) : (showD h F).length = F.length - hl h - 1 := by
  unfold showD
  rw [mix_len, showX_len hF]
theorem show_b {h : Int} {F : List Nat} (hb : BY F) : BY (showD h F) := mix_by hb.drop.take msk_by
theorem crs_show1 {h : Int} {F : List Nat} : crs F 1 (hl h) (msk h (showX h F) (hl h)) = F.take 1 ++ showS h F ++ F.drop (1 + hl h) := rfl
theorem crs_show2 {h : Int} {F : List Nat} {n : Nat} (hF : 2 * hl h + 2 ≤ F.length) (hn : F.length - hl h - 1 = n) : crs (F.take 1 ++ showS h F ++ F.drop (1 + hl h)) (1 + hl h) n (msk h (showS h F) n) = F.take 1 ++ showS h F ++ showD h F := by
  subst hn
  rw [crs_app2 (by rw [List.length_append, showS_len hF, List.length_take]; omega) (by rw [List.length_drop]; omega)]
  unfold showD
  rw [showX_drop]

set_option maxHeartbeats 8000000 in
set_option maxRecDepth 100000 in
theorem c_X8_show [Gh] (l : Launch) (w : Wl) (σ : St) (hk0 : w.2 13 0) (hw19 : ∀ q, w.2 19 q → q < 4096) (A : Ab) (hM : HM σ A) (p0 : Int) (hp0 : rI p0) (p1 : Int) (hp1 : rI p1) (p2 : Int) (hp2 : rI p2) (p3 : Int) (hp3 : rI p3) (p4 : Int) (hp4 : rI p4) : Cz l yX8_show cX8_show 10 (Option.some Jvm.ClassFile.FieldType.int) 7 177 (kap σ * 10360) (kap σ * 103600) wI [.ref (w.1 13 0), .int (iI (p0)), .int (iI (p1)), .int (iI (p2)), .int (iI (p3)), .int (iI (p4))] w σ (fun a σ' => ∃ A', f_show A p0 p1 p2 p3 p4 = (σ' 10 0 0, a, A') ∧ HM σ' A' ∧ FC σ σ') := by
  refine Cz.of (own := RX8) (lv := [(0, .ref (w.1 13 0)), (1, .int (iI (p0))), (2, .int (iI (p1))), (3, .int (iI (p2))), (4, .int (iI (p3))), (5, .int (iI (p4)))]) (by decide +kernel) rfl (Nat.le_of_ble_eq_true rfl) rfl (fun X hX hxl hR hcl hret => ?_)
  subst hxl
  have hQ : ∀ q, (14, q) ∈ mn σ 13 0 → w.2 14 q := fun q h => hcl 13 0 hk0 (14, q) h
  have hQ5 : ∀ q, (14, q) ∈ mn σ 13 0 → w.2 15 q := fun q h => hcl 14 q (hQ q h) (15, q) (by simp [mn, tp])
  have hQ16 : ∀ q, (16, q) ∈ mn σ 13 0 → w.2 16 q := fun q h => hcl 13 0 hk0 (16, q) h
  have hp0a := hp0.1
  have hp0b := hp0.2
  have hp1a := hp1.1
  have hp1b := hp1.2
  have hp2a := hp2.1
  have hp2b := hp2.2
  have hp3a := hp3.1
  have hp3b := hp3.2
  have hp4a := hp4.1
  have hp4b := hp4.2
  refine v_aload_n hX 0 rfl (atL dAX8_show_0 0 rfl) ?_
  refine v_iload_n hX 3 rfl (atL dAX8_show_0 1 rfl) ?_
  refine v_iload hX 4 rfl (atL dAX8_show_0 2 rfl) ?_
  refine v_iload hX 5 rfl (atL dAX8_show_0 3 rfl) ?_
  refine v_callV hX (As := [.int (iI (p2)), .int (iI (p3)), .int (iI (p4))]) (rest := []) (c_X8_are (xl X) w σ hk0 p2 hp2 p3 hp3 p4 hp4) lk_X8_240 hk0 (fun _ => rfl) rfl rfl rfl (by rw [hR]; exact ⟨Nat.le_of_ble_eq_true rfl, Nat.le_of_ble_eq_true rfl⟩) (by rw [hR]; exact (ZI.z : ZI (kap σ) (0, 0) σ).b) rfl (Nat.le_of_ble_eq_true rfl) (atL dAX8_show_0 4 rfl) (fun r1 s1 g1 => ?_)
  obtain ⟨gs1, ht1, hG1, hA1, hD1⟩ := are_use g1 FG.rf hM.2.1 hM.2.2
  have gd1 : r1 = 0 ∨ r1 = 1 := by rcases gs1 with q | q <;> omega
  have hz1 := (ZI.z : ZI (kap σ) (0, 0) σ).k (t := s1) (are_4 g1)
  show V X _ w _ _ s1 [.int (iI (r1))]
  refine v_if_eq hX ⟨by omega, by omega⟩ (tgt := 28) (atL dAX8_show_0 5 rfl) (by decide) (fun h9 => ?_) (fun h9 => ?_)
  · refine v_iconst hX (atL dAX8_show_0 14 rfl) ?_
    exact v_iret hX (atL dAX8_show_0 15 rfl) ((hret _ _ ⟨A, by rw [show s1 10 0 0 = 1 by omega]; unfold f_show; rw [if_pos (by omega)], hM.same hG1 hA1 hD1, hG1.fc⟩ _ hz1))
  · refine v_aload_n hX 0 rfl (atL dAX8_show_0 6 rfl) ?_
    refine v_iload_n hX 1 rfl (atL dAX8_show_0 7 rfl) ?_
    refine v_callV hX (As := [.int (iI (p0))]) (rest := []) (c_X8_isKey (xl X) w s1 hk0 p0 hp0 A.2.1 (hM.1.fg hG1).2.2.1 hM.1.2.2.2.1) lk_X8_370 hk0 (fun _ => rfl) rfl rfl rfl (by rw [hR]; exact ⟨Nat.le_of_ble_eq_true rfl, Nat.le_of_ble_eq_true rfl⟩) (by rw [hR]; exact hz1.b) rfl (Nat.le_of_ble_eq_true rfl) (atL dAX8_show_0 8 rfl) (fun r2 s2 g2 => ?_)
    obtain ⟨gs2, ht2, hG2, hA2, hD2⟩ := iss_use g2 (by omega) hG1 hA1 hD1
    have gd2 : r2 = 0 ∨ r2 = 1 := by rcases gs2 with q | q <;> omega
    have hz2 := hz1.k (t := s2) (iss_4 g2)
    show V X _ w _ _ s2 [.int (iI (r2))]
    refine v_if_eq hX ⟨by omega, by omega⟩ (tgt := 28) (atL dAX8_show_0 9 rfl) (by decide) (fun h17 => ?_) (fun h17 => ?_)
    · refine v_iconst hX (atL dAX8_show_0 14 rfl) ?_
      exact v_iret hX (atL dAX8_show_0 15 rfl) ((hret _ _ ⟨A, by rw [show s2 10 0 0 = 1 by omega]; unfold f_show; rw [if_pos (by omega)], hM.same hG2 hA2 hD2, hG2.fc⟩ _ hz2))
    · refine v_aload_n hX 0 rfl (atL dAX8_show_0 10 rfl) ?_
      refine v_iload_n hX 2 rfl (atL dAX8_show_0 11 rfl) ?_
      refine v_callV hX (As := [.int (iI (p1))]) (rest := []) (c_X8_isHash (xl X) w s2 hk0 p1 hp1) lk_X8_342 hk0 (fun _ => rfl) rfl rfl rfl (by rw [hR]; exact ⟨Nat.le_of_ble_eq_true rfl, Nat.le_of_ble_eq_true rfl⟩) (by rw [hR]; exact hz2.b) rfl (Nat.le_of_ble_eq_true rfl) (atL dAX8_show_0 12 rfl) (fun r3 s3 g3 => ?_)
      obtain ⟨gs3, ht3, hG3, hA3, hD3⟩ := ish_use g3 (by omega) hG2 hA2 hD2
      have gd3 : r3 = 0 ∨ r3 = 1 := by rcases gs3 with q | q <;> omega
      have hz3 := hz2.k (t := s3) (iss_4 g3)
      show V X _ w _ _ s3 [.int (iI (r3))]
      refine v_if_ne hX ⟨by omega, by omega⟩ (tgt := 30) (atL dAX8_show_0 13 rfl) (by decide) (fun h25 => ?_) (fun h25 => ?_)
      · obtain ⟨sp2, rfl⟩ : ∃ q : Nat, p2 = (q : Int) := ⟨p2.toNat, by omega⟩
        obtain ⟨sp3, rfl⟩ : ∃ q : Nat, p3 = (q : Int) := ⟨p3.toNat, by omega⟩
        obtain ⟨sp4, rfl⟩ : ∃ q : Nat, p4 = (q : Int) := ⟨p4.toNat, by omega⟩
        obtain ⟨lsp2, hlsp2⟩ : ∃ q, (A.1 sp2).length = q := ⟨_, rfl⟩
        have hqsp2 : lsp2 ≤ 256 := by rw [← hlsp2]; exact hM.1.len (by omega)
        have hbvsp2 : lb (rv (A.1 sp2)) 128 := rv_lb (hM.1.by (by omega)) (hM.1.len (by omega))
        obtain ⟨lsp3, hlsp3⟩ : ∃ q, (A.1 sp3).length = q := ⟨_, rfl⟩
        have hqsp3 : lsp3 ≤ 256 := by rw [← hlsp3]; exact hM.1.len (by omega)
        have hbvsp3 : lb (rv (A.1 sp3)) 128 := rv_lb (hM.1.by (by omega)) (hM.1.len (by omega))
        obtain ⟨lsp4, hlsp4⟩ : ∃ q, (A.1 sp4).length = q := ⟨_, rfl⟩
        have hqsp4 : lsp4 ≤ 256 := by rw [← hlsp4]; exact hM.1.len (by omega)
        have hbvsp4 : lb (rv (A.1 sp4)) 128 := rv_lb (hM.1.by (by omega)) (hM.1.len (by omega))
        obtain ⟨kx, rfl⟩ : ∃ q : Nat, p0 = (q : Int) := ⟨p0.toNat, by omega⟩
        obtain ⟨P, hPe⟩ : ∃ q, A.2.2.1 kx = q := ⟨_, rfl⟩
        obtain ⟨K, hKe⟩ : ∃ q, A.2.2.2 kx = q := ⟨_, rfl⟩
        have hK : KM σ kx P K := by rw [← hPe, ← hKe]; exact hM.1.2.2.2.2 kx (by omega)
        have hk16 := hM.1.2.2.2.1
        have hPP := hK.1
        have hkb : ∀ j, j < P → lb (K j) 64 := fun j hj => by have := (hK.2.2.1 j hj).2.1; exact nby_lb this
        have hK0 := hK.2.2.2
        have hKn := (hK.2.2.1 0 (by omega)).2.1
        have hKn1 := nby_pos hK0
        have hKnb : nby (K 0) = (blen (K 0) + 7) / 8 := rfl
        have hblK := blen_pos hK0
        have hh : isH p1 := by omega
        have hhr : rI p1 := hp1
        have hlg := hl_ge p1
        have hl3 := hl_32 p1
        refine v_aload_n hX 0 rfl (atL dAX8_show_0 16 rfl) ?_
        refine gf_X8_122 hX hk0 (atL dAX8_show_0 17 rfl) ?_
        refine v_iload_n hX 1 rfl (atL dAX8_show_0 18 rfl) ?_
        obtain ⟨ow, how⟩ : ∃ q : Int, (if P = 8 then 1 else 0) = q := ⟨_, rfl⟩
        have hwo : (ow = 1 ∧ P = 8) ∨ (ow = 0 ∧ P = 2) := by rcases hPP with e | e <;> subst e <;> simp at how <;> omega
        refine v_zald hX (r := iI (ow)) kx (hcl 13 0 hk0 (17, 0) (by simp [mn, tp])) (fun _ => rfl) rfl (show kx < 16 by omega) (by decide) (congrArg iI ((hK.fg hG3).2.1.trans how)) (atL dAX8_show_0 19 rfl) ?_
        refine v_if_ne hX ⟨by omega, by omega⟩ (tgt := 42) (atL dAX8_show_0 20 rfl) (by decide) (fun h36 => ?_) (fun h36 => ?_)
        · refine v_aload_n hX 0 rfl (atL dAX8_show_0 23 rfl) ?_
          refine v_iload_n hX 1 rfl (atL dAX8_show_0 24 rfl) ?_
          refine v_callV hX (As := [.int (iI ((kx : Int)))]) (rest := []) (c_X8_lengthOf (xl X) w s3 hk0 hA3 kx (by omega) P K (hK.fg hG3)) lk_X8_380 hk0 (fun _ => rfl) rfl rfl rfl (by rw [hR]; exact ⟨Nat.le_of_ble_eq_true rfl, Nat.le_of_ble_eq_true rfl⟩) (by rw [hR]; exact hz3.b) rfl (Nat.le_of_ble_eq_true rfl) (atL dAX8_show_0 25 rfl) (fun r4 s4 e4 => ?_)
          obtain ⟨ga4, hw4, hf4⟩ := e4
          subst ga4
          have hA4 := hA3.one hf4 hw4
          have hG4 := hG3.fr hf4 rfl (by decide)
          have hD4 := hD3.fr hf4 (by decide) (by decide) (by decide)
          have ht4 : s4 10 0 0 = 0 := by rw [hf4 10 0 (by decide)]; omega
          have hz4 := hz3.k (t := s4) (by rw [hf4 10 0 (by decide)])
          show V X _ w _ _ s4 [.int (iI (((nby (K 0) : Nat) : Int)))]
          refine v_istore hX (lv' := [(6, .int (iI (((nby (K 0) : Nat) : Int)))), (0, .ref (w.1 13 0)), (1, .int (iI ((kx : Int)))), (2, .int (iI (p1))), (3, .int (iI ((sp2 : Int)))), (4, .int (iI ((sp3 : Int)))), (5, .int (iI ((sp4 : Int))))]) (Nat.le_of_ble_eq_true rfl) rfl (atL dAX8_show_0 26 rfl) ?_
          refine v_iload_n hX 3 rfl (atL dAX8_show_0 27 rfl) ?_
          refine v_callS hX (As := [.int (iI (p1))]) (rest := []) (c_X8_long0 (xl X) w s4 p1 hhr) lk_X8_351 rfl (by rw [hR]; exact ⟨Nat.le_of_ble_eq_true rfl, Nat.le_of_ble_eq_true rfl⟩) (by rw [hR]; exact hz4.b) rfl (Nat.le_of_ble_eq_true rfl) (atL dAX8_show_0 28 rfl) (fun r5 z5 g5 => ?_)
          obtain ⟨ga5, gb5⟩ := g5
          rw [gb5]
          subst ga5
          show V X _ w _ _ s4 [.int (iI ((hl p1 : Int)))]
          refine v_istore hX (lv' := [(7, .int (iI ((hl p1 : Int)))), (6, .int (iI (((nby (K 0) : Nat) : Int)))), (0, .ref (w.1 13 0)), (1, .int (iI ((kx : Int)))), (2, .int (iI (p1))), (3, .int (iI ((sp2 : Int)))), (4, .int (iI ((sp3 : Int)))), (5, .int (iI ((sp4 : Int))))]) (Nat.le_of_ble_eq_true rfl) rfl (atL dAX8_show_0 29 rfl) ?_
          refine v_iload hX 1 rfl (atL dAX8_show_0 30 rfl) ?_
          refine v_iconst hX (atL dAX8_show_0 31 rfl) ?_
          refine v_iload hX 0 rfl (atL dAX8_show_0 32 rfl) ?_
          refine v_imul hX (iI_mul _ _) (atL dAX8_show_0 33 rfl) ?_
          refine v_iconst hX (atL dAX8_show_0 34 rfl) ?_
          refine v_iadd hX (iI_add _ _) (atL dAX8_show_0 35 rfl) ?_
          refine v_icmp_lt hX ⟨by omega, by omega⟩ ⟨by omega, by omega⟩ (tgt := 85) (atL dAX8_show_0 36 rfl) (by decide) (fun h63 => ?_) (fun h63 => ?_)
          · refine v_bipush hX (by decide +kernel) (atL dAX8_show_0 48 rfl) ?_
            exact v_iret hX (atL dAX8_show_0 49 rfl) ((hret _ _ ⟨A, by rw [show s4 10 0 0 = 0 by omega]; unfold f_show; simp only [Int.toNat_natCast, hPe, hKe]; rw [if_neg (by omega), if_neg (by omega), if_neg (by omega), if_pos (Or.inl (by omega))], hM.same hG4 hA4 hD4, hG4.fc⟩ _ hz4))
          · refine v_aload_n hX 2 rfl (atL dAX8_show_0 37 rfl) ?_
            refine v_iload_n hX 3 rfl (atL dAX8_show_0 38 rfl) ?_
            refine v_iconst hX (atL dAX8_show_0 39 rfl) ?_
            refine v_iload_n hX 5 rfl (atL dAX8_show_0 40 rfl) ?_
            refine v_callV hX (As := [.int (iI ((kx : Int))), .int (iI (2)), .int (iI ((sp2 : Int)))]) (rest := []) (c_X8_opened (xl X) w s4 hk0 A (hM.same hG4 hA4 hD4) (by omega) kx (by omega) P K (hK.fg hG4) 1 (by omega) sp2 (by omega)) lk_X8_391 hk0 (fun _ => rfl) rfl rfl rfl (by rw [hR]; exact ⟨Nat.le_of_ble_eq_true rfl, Nat.le_of_ble_eq_true rfl⟩) (by rw [hR]; exact hz4.b) rfl (Nat.le_of_ble_eq_true rfl) (atL dAX8_show_0 41 rfl) (fun r6 s6 e6 => ?_)
            obtain ⟨gc6, hA6, hO6⟩ := e6
            have gd6 : r6 = 0 ∨ r6 = 1 := by rcases gc6 with q | q <;> omega
            have hG6 := FO.fg hG4 hO6
            have hD6 := FO.dg hD4 hO6
            have ht6 : s6 10 0 0 = 0 := by rw [hO6.2 0 (by decide)]; omega
            have hz6 := hz4.k (t := s6) (hO6.2 4 (by decide))
            show V X _ w _ _ s6 [.int (iI (r6))]
            refine v_if_eq hX ⟨by omega, by omega⟩ (tgt := 85) (atL dAX8_show_0 42 rfl) (by decide) (fun h73 => ?_) (fun h73 => ?_)
            · refine v_bipush hX (by decide +kernel) (atL dAX8_show_0 48 rfl) ?_
              exact v_iret hX (atL dAX8_show_0 49 rfl) ((hret _ _ ⟨A, by rw [show s6 10 0 0 = 0 by omega]; unfold f_show; simp only [Int.toNat_natCast, hPe, hKe]; rw [if_neg (by omega), if_neg (by omega), if_neg (by omega), if_pos (Or.inr (Or.inl (gc6.resolve_left (fun q => by omega)).2))], hM.same hG6 hA6 hD6, hG6.fc⟩ _ hz6))
            · obtain ⟨-, hwr, hAW⟩ := gc6.resolve_right (fun q => by omega)
              obtain ⟨F, hF⟩ : ∃ q, tn K 1 (A.1 sp2) = q := ⟨_, rfl⟩
              rw [hF] at hAW
              have hFl : F.length = nby (K 0) := by rw [← hF]; exact tn_len
              have hFb : BY F := by rw [← hF]; exact be_by
              refine v_aload_n hX 2 rfl (atL dAX8_show_0 43 rfl) ?_
              refine gf_X8_147 hX hk0 (atL dAX8_show_0 44 rfl) ?_
              refine v_iconst hX (atL dAX8_show_0 45 rfl) ?_
              have hpv7 := hAW.get (j := 0) (by rw [hFl]; omega)
              have hpb7 := hFb.get 0
              refine v_iald hX (r := iI (((F.getD 0 0 : Nat) : Int))) 0 (hQ16 13 (by simp [mn, tp])) (fun _ => rfl) rfl (show 0 < 600 by omega) (by decide) (congrArg iI hpv7) (atL dAX8_show_0 46 rfl) ?_
              refine v_if_eq hX ⟨by omega, by omega⟩ (tgt := 88) (atL dAX8_show_0 47 rfl) (by decide) (fun h82 => ?_) (fun h82 => ?_)
              · have hF2l : 2 * hl p1 + 2 ≤ F.length := by omega
                have hSl := showS_len hF2l
                have hXl := showX_len hF2l
                have hDl := showD_len hF2l
                rw [hFl] at hXl hDl
                have hT1 : (F.take 1).length = 1 := by rw [List.length_take]; omega
                have hT2 : (F.take 1 ++ showS p1 F).length = 1 + hl p1 := by rw [List.length_append, hT1, hSl]
                refine v_aload_n hX 2 rfl (atL dAX8_show_0 50 rfl) ?_
                refine v_iload_n hX 4 rfl (atL dAX8_show_0 51 rfl) ?_
                refine v_aload_n hX 2 rfl (atL dAX8_show_0 52 rfl) ?_
                refine gf_X8_147 hX hk0 (atL dAX8_show_0 53 rfl) ?_
                refine v_iconst hX (atL dAX8_show_0 54 rfl) ?_
                refine v_iload hX 0 rfl (atL dAX8_show_0 55 rfl) ?_
                refine v_iadd hX (iI_add _ _) (atL dAX8_show_0 56 rfl) ?_
                rw [show (1 + ((hl p1 : Int))) = ((1 + hl p1 : Nat) : Int) from (by omega)]
                refine v_iload hX 1 rfl (atL dAX8_show_0 57 rfl) ?_
                refine v_iload hX 0 rfl (atL dAX8_show_0 58 rfl) ?_
                refine v_isub hX (iI_sub _ _) (atL dAX8_show_0 59 rfl) ?_
                refine v_iconst hX (atL dAX8_show_1 0 rfl) ?_
                refine v_isub hX (iI_sub _ _) (atL dAX8_show_1 1 rfl) ?_
                rw [show (((((nby (K 0) : Nat) : Int)) - ((hl p1 : Int))) - 1) = ((nby (K 0) - hl p1 - 1 : Nat) : Int) from (by omega)]
                refine v_iload hX 0 rfl (atL dAX8_show_1 2 rfl) ?_
                refine v_callVM hX (As := [.int (iI (p1)), .ref (w.1 16 13), .int (iI (((1 + hl p1 : Nat) : Int))), .int (iI (((nby (K 0) - hl p1 - 1 : Nat) : Int))), .int (iI ((hl p1 : Int)))]) (rest := []) (c_X8_masks (xl X) w s6 hk0 hw19 hD6 p1 hh 13 (hQ16 13 (by simp [mn, tp])) (by decide) (showX p1 F) ((1 + hl p1)) (nby (K 0) - hl p1 - 1) hXl (by rw [showX_drop, ← drop_take_all (n := nby (K 0) - hl p1 - 1) (by omega)]; exact hAW.sub (by rw [hFl]; omega)) (by show _ ≤ 600; omega) (by omega) (hl p1) (by omega)) lk_X8_354 hk0 (fun _ => rfl) rfl rfl rfl (by rw [hR]; exact ⟨Nat.le_of_ble_eq_true rfl, Nat.le_of_ble_eq_true rfl⟩) (by rw [hR]; exact hz6) rfl (Nat.le_of_ble_eq_true rfl) (atL dAX8_show_1 3 rfl) (fun _ s8 e8 => ?_)
                obtain ⟨hm8, hD8, hck8, hg8⟩ := e8
                have hz8 := hz6.d (hck8.resolve_left (by omega))
                generalize (((0, 0) : Nat × Nat).1 + kap s6 * 10360, ((0, 0) : Nat × Nat).2 + kap s6 * 103600) = z8 at hz8 ⊢
                have hal8_13 : AW (s8 13 13) 0 F := by rw [hg8.1 13 13 (by decide)]; exact hAW
                have hG8 := FMk.fg hG6 hg8
                have hA8 := hA6.fp hg8.1 rfl
                have ht8 : s8 10 0 0 = 0 := by rw [hg8.2 0 (by decide) (by decide)]; omega
                show V X _ w _ _ s8 []
                refine v_aload_n hX 2 rfl (atL dAX8_show_1 4 rfl) ?_
                refine v_iconst hX (atL dAX8_show_1 5 rfl) ?_
                refine v_iload hX 0 rfl (atL dAX8_show_1 6 rfl) ?_
                refine v_callV hX (As := [.int (iI (1)), .int (iI ((hl p1 : Int)))]) (rest := []) (c_X8_crosses (xl X) w s8 hk0 F (msk p1 (showX p1 F) (hl p1)) hal8_13 hFb hm8 (msk_by : BY (msk p1 (showX p1 F) (hl p1))) 1 (hl p1) (by rw [hFl]; omega) (by rw [(msk_len : (msk p1 (showX p1 F) (hl p1)).length = hl p1)]; omega) (by rw [hFl]; omega) (by rw [(msk_len : (msk p1 (showX p1 F) (hl p1)).length = hl p1)]; omega)) lk_X8_383 hk0 (fun _ => rfl) rfl rfl rfl (by rw [hR]; exact ⟨Nat.le_of_ble_eq_true rfl, Nat.le_of_ble_eq_true rfl⟩) (by rw [hR]; exact hz8.b) rfl (Nat.le_of_ble_eq_true rfl) (atL dAX8_show_1 7 rfl) (fun _ s9 e9 => ?_)
                obtain ⟨hcr9, hf9⟩ := e9
                have hcl9 : (crs F 1 (hl p1) (msk p1 (showX p1 F) (hl p1))).length = nby (K 0) := by rw [crs_len (by rw [hFl]; omega), hFl]
                have hA9 := hA8.fp hf9 rfl
                have hG9 := hG8.fr hf9 rfl (by decide)
                have hD9 := hD8.fr hf9 (by decide) (by decide) (by decide)
                have ht9 : s9 10 0 0 = 0 := by rw [hf9 10 0 (by decide)]; omega
                have hal9_10 : AW (s9 13 10) 0 (msk p1 (showX p1 F) (hl p1)) := by rw [hf9 13 10 (by decide)]; exact hm8
                have hc49 : s9 10 0 4 = 1 := Eq.trans (by rw [hf9 10 0 (by decide)]) (hck8.resolve_left (by omega)).1
                have hz9 := hz8.k (t := s9) (by rw [hf9 10 0 (by decide)])
                show V X _ w _ _ s9 []
                have hAW1 := hcr9
                have hl91 := hcl9
                have hb91 : BY (crs F 1 (hl p1) (msk p1 (showX p1 F) (hl p1))) := (crs_by hFb (msk_by : BY (msk p1 (showX p1 F) (hl p1))))
                rw [crs_show1] at hAW1 hl91 hb91
                refine v_aload_n hX 2 rfl (atL dAX8_show_1 8 rfl) ?_
                refine v_iload_n hX 4 rfl (atL dAX8_show_1 9 rfl) ?_
                refine v_aload_n hX 2 rfl (atL dAX8_show_1 10 rfl) ?_
                refine gf_X8_147 hX hk0 (atL dAX8_show_1 11 rfl) ?_
                refine v_iconst hX (atL dAX8_show_1 12 rfl) ?_
                refine v_iload hX 0 rfl (atL dAX8_show_1 13 rfl) ?_
                refine v_iload hX 1 rfl (atL dAX8_show_1 14 rfl) ?_
                refine v_iload hX 0 rfl (atL dAX8_show_1 15 rfl) ?_
                refine v_isub hX (iI_sub _ _) (atL dAX8_show_1 16 rfl) ?_
                refine v_iconst hX (atL dAX8_show_1 17 rfl) ?_
                refine v_isub hX (iI_sub _ _) (atL dAX8_show_1 18 rfl) ?_
                rw [show (((((nby (K 0) : Nat) : Int)) - ((hl p1 : Int))) - 1) = ((nby (K 0) - hl p1 - 1 : Nat) : Int) from (by omega)]
                refine v_callVM hX (As := [.int (iI (p1)), .ref (w.1 16 13), .int (iI (1)), .int (iI ((hl p1 : Int))), .int (iI (((nby (K 0) - hl p1 - 1 : Nat) : Int)))]) (rest := []) (c_X8_masks (xl X) w s9 hk0 hw19 hD9 p1 hh 13 (hQ16 13 (by simp [mn, tp])) (by decide) (showS p1 F) 1 (hl p1) hSl (by have h9 := (hAW1).app.1.app.2; rw [hT1, Nat.zero_add] at h9; exact h9) (by show _ ≤ 600; omega) (by omega) (nby (K 0) - hl p1 - 1) (by omega)) lk_X8_354 hk0 (fun _ => rfl) rfl rfl rfl (by rw [hR]; exact ⟨Nat.le_of_ble_eq_true rfl, Nat.le_of_ble_eq_true rfl⟩) (by rw [hR]; exact hz9) rfl (Nat.le_of_ble_eq_true rfl) (atL dAX8_show_1 19 rfl) (fun _ s10 e10 => ?_)
                obtain ⟨hm10, hD10, hck10, hg10⟩ := e10
                have hz10 := hz9.d (hck10.resolve_left (by omega))
                generalize (z8.1 + kap s9 * 10360, z8.2 + kap s9 * 103600) = z10 at hz10 ⊢
                have hal10_13 : AW (s10 13 13) 0 (F.take 1 ++ showS p1 F ++ F.drop (1 + hl p1)) := by rw [hg10.1 13 13 (by decide)]; exact hAW1
                have hG10 := FMk.fg hG9 hg10
                have hA10 := hA9.fp hg10.1 rfl
                have ht10 : s10 10 0 0 = 0 := by rw [hg10.2 0 (by decide) (by decide)]; omega
                show V X _ w _ _ s10 []
                refine v_aload_n hX 2 rfl (atL dAX8_show_1 20 rfl) ?_
                refine v_iconst hX (atL dAX8_show_1 21 rfl) ?_
                refine v_iload hX 0 rfl (atL dAX8_show_1 22 rfl) ?_
                refine v_iadd hX (iI_add _ _) (atL dAX8_show_1 23 rfl) ?_
                rw [show (1 + ((hl p1 : Int))) = ((1 + hl p1 : Nat) : Int) from (by omega)]
                refine v_iload hX 1 rfl (atL dAX8_show_1 24 rfl) ?_
                refine v_iload hX 0 rfl (atL dAX8_show_1 25 rfl) ?_
                refine v_isub hX (iI_sub _ _) (atL dAX8_show_1 26 rfl) ?_
                refine v_iconst hX (atL dAX8_show_1 27 rfl) ?_
                refine v_isub hX (iI_sub _ _) (atL dAX8_show_1 28 rfl) ?_
                rw [show (((((nby (K 0) : Nat) : Int)) - ((hl p1 : Int))) - 1) = ((nby (K 0) - hl p1 - 1 : Nat) : Int) from (by omega)]
                refine v_callV hX (As := [.int (iI (((1 + hl p1 : Nat) : Int))), .int (iI (((nby (K 0) - hl p1 - 1 : Nat) : Int)))]) (rest := []) (c_X8_crosses (xl X) w s10 hk0 (F.take 1 ++ showS p1 F ++ F.drop (1 + hl p1)) (msk p1 (showS p1 F) (nby (K 0) - hl p1 - 1)) hal10_13 hb91 hm10 (msk_by : BY (msk p1 (showS p1 F) (nby (K 0) - hl p1 - 1))) ((1 + hl p1)) (nby (K 0) - hl p1 - 1) (by rw [hl91]; omega) (by rw [(msk_len : (msk p1 (showS p1 F) (nby (K 0) - hl p1 - 1)).length = nby (K 0) - hl p1 - 1)]; omega) (by rw [hl91]; omega) (by rw [(msk_len : (msk p1 (showS p1 F) (nby (K 0) - hl p1 - 1)).length = nby (K 0) - hl p1 - 1)]; omega)) lk_X8_383 hk0 (fun _ => rfl) rfl rfl rfl (by rw [hR]; exact ⟨Nat.le_of_ble_eq_true rfl, Nat.le_of_ble_eq_true rfl⟩) (by rw [hR]; exact hz10.b) rfl (Nat.le_of_ble_eq_true rfl) (atL dAX8_show_1 29 rfl) (fun _ s11 e11 => ?_)
                obtain ⟨hcr11, hf11⟩ := e11
                have hcl11 : (crs (F.take 1 ++ showS p1 F ++ F.drop (1 + hl p1)) ((1 + hl p1)) (nby (K 0) - hl p1 - 1) (msk p1 (showS p1 F) (nby (K 0) - hl p1 - 1))).length = nby (K 0) := by rw [crs_len (by rw [hl91]; omega), hl91]
                have hA11 := hA10.fp hf11 rfl
                have hG11 := hG10.fr hf11 rfl (by decide)
                have hD11 := hD10.fr hf11 (by decide) (by decide) (by decide)
                have ht11 : s11 10 0 0 = 0 := by rw [hf11 10 0 (by decide)]; omega
                have hal11_10 : AW (s11 13 10) 0 (msk p1 (showS p1 F) (nby (K 0) - hl p1 - 1)) := by rw [hf11 13 10 (by decide)]; exact hm10
                have hc411 : s11 10 0 4 = 1 := Eq.trans (by rw [hf11 10 0 (by decide)]) (hck10.resolve_left (by omega)).1
                have hz11 := hz10.k (t := s11) (by rw [hf11 10 0 (by decide)])
                show V X _ w _ _ s11 []
                have hAW2 := hcr11
                have hl92 := hcl11
                have hb92 : BY (crs (F.take 1 ++ showS p1 F ++ F.drop (1 + hl p1)) ((1 + hl p1)) (nby (K 0) - hl p1 - 1) (msk p1 (showS p1 F) (nby (K 0) - hl p1 - 1))) := (crs_by hb91 (msk_by : BY (msk p1 (showS p1 F) (nby (K 0) - hl p1 - 1))))
                rw [crs_show2 hF2l (by omega)] at hAW2 hl92 hb92
                refine v_aload_n hX 2 rfl (atL dAX8_show_1 30 rfl) ?_
                refine v_iload hX 6 rfl (atL dAX8_show_1 31 rfl) ?_
                refine v_callV hX (As := [.int (iI ((sp3 : Int)))]) (rest := []) (c_X8_saysSlot (xl X) w s11 hk0 ([]) hD11.rd sp3 (by omega) (A.1 sp3) ((hM.1.fg hG11).1 sp3 (by omega)).1 (by rw [hlsp3]; show 0 + _ ≤ _; omega)) lk_X8_345 hk0 (fun _ => rfl) rfl rfl rfl (by rw [hR]; exact ⟨Nat.le_of_ble_eq_true rfl, Nat.le_of_ble_eq_true rfl⟩) (by rw [hR]; exact hz11.b) rfl (Nat.le_of_ble_eq_true rfl) (atL dAX8_show_1 32 rfl) (fun _ s12 e12 => ?_)
                obtain ⟨hr12, gb12⟩ := e12
                rw [List.nil_append] at hr12
                have hl12 : (A.1 sp3).length = lsp3 := by exact hlsp3
                have hG12 := hG11.fd gb12
                have hA12 := hA11.fp gb12.1 rfl
                have hco12 := CO.fd hD11.2 gb12
                have ht12 : s12 10 0 0 = 0 := by rw [gb12.2 0 (by decide)]; omega
                have hal12_10 : AW (s12 13 10) 0 (msk p1 (showS p1 F) (nby (K 0) - hl p1 - 1)) := by rw [gb12.1 13 10 (by decide)]; exact hal11_10
                have hal12_13 : AW (s12 13 13) 0 (F.take 1 ++ showS p1 F ++ showD p1 F) := by rw [gb12.1 13 13 (by decide)]; exact hAW2
                have hc412 : s12 10 0 4 = 1 := Eq.trans (gb12.2 4 (by decide)) hc411
                have hz12 := hz11.k (t := s12) (gb12.2 4 (by decide))
                show V X _ w _ _ s12 []
                refine v_aload_n hX 2 rfl (atL dAX8_show_1 33 rfl) ?_
                refine v_iload_n hX 4 rfl (atL dAX8_show_1 34 rfl) ?_
                refine v_callVM hX (As := [.int (iI (p1))]) (rest := []) (c_X8_digests (xl X) w s12 hk0 hw19 hco12 p1 hh (A.1 sp3) hr12 (by rw [hl12]; omega)) lk_X8_348 hk0 (fun _ => rfl) rfl rfl rfl (by rw [hR]; exact ⟨Nat.le_of_ble_eq_true rfl, Nat.le_of_ble_eq_true rfl⟩) (by rw [hR]; exact hz12) rfl (Nat.le_of_ble_eq_true rfl) (atL dAX8_show_1 35 rfl) (fun _ s13 e13 => ?_)
                obtain ⟨h513, h313, hck13, hg13⟩ := e13
                have hz13 := hz12.d hck13
                generalize (z10.1 + kap s12 * 10360, z10.2 + kap s12 * 103600) = z13 at hz13 ⊢
                have hal13_10 : AW (s13 13 10) 0 (msk p1 (showS p1 F) (nby (K 0) - hl p1 - 1)) := by rw [hg13.1 13 10 (by decide)]; exact hal12_10
                have hal13_13 : AW (s13 13 13) 0 (F.take 1 ++ showS p1 F ++ showD p1 F) := by rw [hg13.1 13 13 (by decide)]; exact hal12_13
                have hG13 := FDg.fg hG12 hg13
                have hA13 := FDg.an hA12 hg13
                have hD13 := hck13.dg h313
                have ht13 : s13 10 0 0 = 0 := by rw [hg13.2 0 (by decide) (by decide)]; omega
                show V X _ w _ _ s13 []
                refine v_iconst hX (atL dAX8_show_1 36 rfl) ?_
                refine v_istore hX (lv' := [(8, .int (iI (1))), (7, .int (iI ((hl p1 : Int)))), (6, .int (iI (((nby (K 0) : Nat) : Int)))), (0, .ref (w.1 13 0)), (1, .int (iI ((kx : Int)))), (2, .int (iI (p1))), (3, .int (iI ((sp2 : Int)))), (4, .int (iI ((sp3 : Int)))), (5, .int (iI ((sp4 : Int))))]) (Nat.le_of_ble_eq_true rfl) rfl (atL dAX8_show_1 37 rfl) ?_
                refine v_iconst hX (atL dAX8_show_1 38 rfl) ?_
                refine v_istore hX (lv' := [(9, .int (iI (0))), (8, .int (iI (1))), (7, .int (iI ((hl p1 : Int)))), (6, .int (iI (((nby (K 0) : Nat) : Int)))), (0, .ref (w.1 13 0)), (1, .int (iI ((kx : Int)))), (2, .int (iI (p1))), (3, .int (iI ((sp2 : Int)))), (4, .int (iI ((sp3 : Int)))), (5, .int (iI ((sp4 : Int))))]) (Nat.le_of_ble_eq_true rfl) rfl (atL dAX8_show_1 39 rfl) ?_
                have hSD : AW (s13 13 13) (1 + hl p1) (showD p1 F) := by have h9 := (hal13_13).app.2; rw [hT2, Nat.zero_add] at h9; exact h9
                have loop14 : ∀ (d j : Nat) (fl : Int), j + d = hl p1 → EQd (showD p1 F) (sha p1 (A.1 sp3)) j fl → V X z13 w 168 [(8, .int (iI (fl))), (9, .int (iI ((j : Int)))), (7, .int (iI ((hl p1 : Int)))), (6, .int (iI (((nby (K 0) : Nat) : Int)))), (0, .ref (w.1 13 0)), (1, .int (iI ((kx : Int)))), (2, .int (iI (p1))), (3, .int (iI ((sp2 : Int)))), (4, .int (iI ((sp3 : Int)))), (5, .int (iI ((sp4 : Int))))] s13 [] := by
                  intro d
                  induction d with
                  | zero =>
                    intro j fl hj hi
                    have hjN : j = hl p1 := by omega
                    subst j
                    have hfl := hi.r
                    have hte := eqd_tk hi (by omega) (sha_len : (sha p1 (A.1 sp3)).length = hl p1)
                    refine v_iload hX 1 rfl (atL dAX8_show_1 40 rfl) ?_
                    refine v_iload hX 2 rfl (atL dAX8_show_1 41 rfl) ?_
                    refine v_icmp_ge hX ⟨by omega, by omega⟩ ⟨by omega, by omega⟩ (tgt := 215) (atL dAX8_show_1 42 rfl) (by decide) (fun h172 => ?_) (fun h172 => absurd h172 (by omega))
                    refine v_iconst hX (atL dAX8_show_2 4 rfl) ?_
                    refine v_iconst hX (atL dAX8_show_2 5 rfl) ?_
                    refine v_iload hX 2 rfl (atL dAX8_show_2 6 rfl) ?_
                    refine v_imul hX (iI_mul _ _) (atL dAX8_show_2 7 rfl) ?_
                    refine v_iadd hX (iI_add _ _) (atL dAX8_show_2 8 rfl) ?_
                    rw [show (1 + (2 * ((hl p1 : Int)))) = ((1 + hl p1 + hl p1 : Nat) : Int) from (by omega)]
                    refine v_istore hX (lv' := [(9, .int (iI (((1 + hl p1 + hl p1 : Nat) : Int)))), (8, .int (iI (fl))), (7, .int (iI ((hl p1 : Int)))), (6, .int (iI (((nby (K 0) : Nat) : Int)))), (0, .ref (w.1 13 0)), (1, .int (iI ((kx : Int)))), (2, .int (iI (p1))), (3, .int (iI ((sp2 : Int)))), (4, .int (iI ((sp3 : Int)))), (5, .int (iI ((sp4 : Int))))]) (Nat.le_of_ble_eq_true rfl) rfl (atL dAX8_show_2 9 rfl) ?_
                    have loop15 : ∀ (d j : Nat), j + d = nby (K 0) - hl p1 - 1 → (hl p1 ≤ j ∧ ∀ q, hl p1 ≤ q → q < j → (showD p1 F).getD q 0 = 0) → V X z13 w 223 [(9, .int (iI (((1 + hl p1 + j : Nat) : Int)))), (8, .int (iI (fl))), (7, .int (iI ((hl p1 : Int)))), (6, .int (iI (((nby (K 0) : Nat) : Int)))), (0, .ref (w.1 13 0)), (1, .int (iI ((kx : Int)))), (2, .int (iI (p1))), (3, .int (iI ((sp2 : Int)))), (4, .int (iI ((sp3 : Int)))), (5, .int (iI ((sp4 : Int))))] s13 [] := by
                      intro d
                      induction d with
                      | zero =>
                        intro j hj hi2
                        have hrun : showO p1 F = j := by unfold showO; rw [run_eq (m := j - hl p1) (by omega) (fun q h1 hq => by simpa using hi2.2 q (by omega) (by omega)) (Or.inl (by omega))]; omega
                        refine v_iload hX 0 rfl (atL dAX8_show_2 10 rfl) ?_
                        refine v_iload hX 3 rfl (atL dAX8_show_2 11 rfl) ?_
                        refine v_icmp_ge hX ⟨by omega, by omega⟩ ⟨by omega, by omega⟩ (tgt := 246) (atL dAX8_show_2 12 rfl) (by decide) (fun h227 => ?_) (fun h227 => absurd h227 (by omega))
                        refine v_iload hX 1 rfl (atL dAX8_show_2 20 rfl) ?_
                        refine v_if_eq hX ⟨by omega, by omega⟩ (tgt := 269) (atL dAX8_show_2 21 rfl) (by decide) (fun h248 => ?_) (fun h248 => ?_)
                        · refine v_bipush hX (by decide +kernel) (atL dAX8_show_2 31 rfl) ?_
                          exact v_iret hX (atL dAX8_show_2 32 rfl) ((hret _ _ ⟨A, by rw [show s13 10 0 0 = 0 by omega]; unfold f_show; simp only [Int.toNat_natCast, hPe, hKe, hF]; rw [if_neg (by omega), if_neg (by omega), if_neg (by omega), if_pos (Or.inr (Or.inr (fun q => hte.f h248 q.2.1)))], hM.same hG13 hA13 hD13, hG13.fc⟩ _ hz13))
                        · refine v_iload hX 0 rfl (atL dAX8_show_2 22 rfl) ?_
                          refine v_iload hX 3 rfl (atL dAX8_show_2 23 rfl) ?_
                          refine v_icmp_eq hX ⟨by omega, by omega⟩ ⟨by omega, by omega⟩ (tgt := 269) (atL dAX8_show_2 24 rfl) (by decide) (fun h255 => ?_) (fun h255 => absurd h255 (by omega))
                          refine v_bipush hX (by decide +kernel) (atL dAX8_show_2 31 rfl) ?_
                          exact v_iret hX (atL dAX8_show_2 32 rfl) ((hret _ _ ⟨A, by rw [show s13 10 0 0 = 0 by omega]; unfold f_show; simp only [Int.toNat_natCast, hPe, hKe, hF]; rw [if_neg (by omega), if_neg (by omega), if_neg (by omega), if_pos (Or.inr (Or.inr (fun q => absurd q.2.2 (by rw [hrun, gD_out (by omega)]; decide))))], hM.same hG13 hA13 hD13, hG13.fc⟩ _ hz13))
                      | succ d ih =>
                        intro j hj hi2
                        have hpv := hSD j (by omega)
                        have hpb := (show_b (h := p1) hFb).get j
                        refine v_iload hX 0 rfl (atL dAX8_show_2 10 rfl) ?_
                        refine v_iload hX 3 rfl (atL dAX8_show_2 11 rfl) ?_
                        refine v_icmp_ge hX ⟨by omega, by omega⟩ ⟨by omega, by omega⟩ (tgt := 246) (atL dAX8_show_2 12 rfl) (by decide) (fun h227 => absurd h227 (by omega)) (fun h227 => ?_)
                        refine v_aload_n hX 4 rfl (atL dAX8_show_2 13 rfl) ?_
                        refine gf_X8_147 hX hk0 (atL dAX8_show_2 14 rfl) ?_
                        refine v_iload hX 0 rfl (atL dAX8_show_2 15 rfl) ?_
                        refine v_iald hX (r := iI ((((showD p1 F).getD j 0 : Nat) : Int))) ((1 + hl p1 + j)) (hQ16 13 (by simp [mn, tp])) (fun _ => rfl) rfl (show 1 + hl p1 + j < 600 by omega) (by decide) (congrArg iI hpv) (atL dAX8_show_2 16 rfl) ?_
                        refine v_if_ne hX ⟨by omega, by omega⟩ (tgt := 246) (atL dAX8_show_2 17 rfl) (by decide) (fun h237 => ?_) (fun h237 => ?_)
                        · have hrun : showO p1 F = j := by unfold showO; rw [run_eq (m := j - hl p1) (by omega) (fun q h1 hq => by simpa using hi2.2 q (by omega) (by omega)) (Or.inr (by rw [show hl p1 + (j - hl p1) = j by omega]; intro h9; have h8 := of_decide_eq_true h9; omega))]; omega
                          refine v_iload hX 1 rfl (atL dAX8_show_2 20 rfl) ?_
                          refine v_if_eq hX ⟨by omega, by omega⟩ (tgt := 269) (atL dAX8_show_2 21 rfl) (by decide) (fun h248 => ?_) (fun h248 => ?_)
                          · refine v_bipush hX (by decide +kernel) (atL dAX8_show_2 31 rfl) ?_
                            exact v_iret hX (atL dAX8_show_2 32 rfl) ((hret _ _ ⟨A, by rw [show s13 10 0 0 = 0 by omega]; unfold f_show; simp only [Int.toNat_natCast, hPe, hKe, hF]; rw [if_neg (by omega), if_neg (by omega), if_neg (by omega), if_pos (Or.inr (Or.inr (fun q => hte.f h248 q.2.1)))], hM.same hG13 hA13 hD13, hG13.fc⟩ _ hz13))
                          · refine v_iload hX 0 rfl (atL dAX8_show_2 22 rfl) ?_
                            refine v_iload hX 3 rfl (atL dAX8_show_2 23 rfl) ?_
                            refine v_icmp_eq hX ⟨by omega, by omega⟩ ⟨by omega, by omega⟩ (tgt := 269) (atL dAX8_show_2 24 rfl) (by decide) (fun h255 => absurd h255 (by omega)) (fun h255 => ?_)
                            refine v_aload_n hX 4 rfl (atL dAX8_show_2 25 rfl) ?_
                            refine gf_X8_147 hX hk0 (atL dAX8_show_2 26 rfl) ?_
                            refine v_iload hX 0 rfl (atL dAX8_show_2 27 rfl) ?_
                            refine v_iald hX (r := iI ((((showD p1 F).getD j 0 : Nat) : Int))) ((1 + hl p1 + j)) (hQ16 13 (by simp [mn, tp])) (fun _ => rfl) rfl (show 1 + hl p1 + j < 600 by omega) (by decide) (congrArg iI hpv) (atL dAX8_show_2 28 rfl) ?_
                            refine v_iconst hX (atL dAX8_show_2 29 rfl) ?_
                            refine v_icmp_eq hX ⟨by omega, by omega⟩ ⟨by omega, by omega⟩ (tgt := 272) (atL dAX8_show_2 30 rfl) (by decide) (fun h266 => ?_) (fun h266 => ?_)
                            · have hSL : (F.take 1 ++ showS p1 F ++ showD p1 F).drop (1 + hl p1 + j + 1) = showL p1 F := by unfold showL; rw [hrun, drop_app (m := j + 1) (by rw [hT2]; omega)]; exact (drop_take_all (by rw [hDl]; omega)).symm
                              have hSLl : (showL p1 F).length = nby (K 0) - (1 + hl p1 + j + 1) := by rw [← hSL, List.length_drop, hl92]
                              refine v_aload_n hX 4 rfl (atL dAX8_show_2 33 rfl) ?_
                              refine v_iload hX 0 rfl (atL dAX8_show_2 34 rfl) ?_
                              refine v_iconst hX (atL dAX8_show_2 35 rfl) ?_
                              refine v_iadd hX (iI_add _ _) (atL dAX8_show_2 36 rfl) ?_
                              rw [show ((((1 + hl p1 + j : Nat) : Int)) + 1) = ((1 + hl p1 + j + 1 : Nat) : Int) from (by omega)]
                              refine v_iload hX 3 rfl (atL dAX8_show_2 37 rfl) ?_
                              refine v_iload hX 9 rfl (atL dAX8_show_2 38 rfl) ?_
                              have hM1q := (hM.same hG13 hA13 hD13).up1 hck13.1
                              refine v_callV hX (As := [.int (iI (((1 + hl p1 + j + 1 : Nat) : Int))), .int (iI (((nby (K 0) : Nat) : Int))), .int (iI ((sp4 : Int)))]) (rest := []) (letI : Gh := gh1; c_X8_shows (xl X) w s13 hk0 A hM1q (by omega) (F.take 1 ++ showS p1 F ++ showD p1 F) (nby (K 0)) hl92 hal13_13 hb92 (by omega) ((1 + hl p1 + j + 1)) (by omega) sp4 (by omega)) lk_X8_394 hk0 (fun _ => rfl) rfl rfl rfl (by rw [hR]; exact ⟨Nat.le_of_ble_eq_true rfl, Nat.le_of_ble_eq_true rfl⟩) (by rw [hR]; exact hz13.b) rfl (Nat.le_of_ble_eq_true rfl) (atL dAX8_show_2 39 rfl) (fun r16 s16 e16 => ?_)
                              show V X _ w _ _ s16 [.int (iI (r16))]
                              exact v_iret hX (atL dAX8_show_2 40 rfl) ((hret _ _ (by obtain ⟨e1, e2, e3, e4⟩ := e16; exact ⟨_, by rw [e2, e1]; unfold f_show; simp only [Int.toNat_natCast, hPe, hKe, hF]; rw [if_neg (by omega), if_neg (by omega), if_neg (by omega), if_neg (fun q => by rcases q with q | q | q; omega; exact q hwr; exact q ⟨by omega, hte.t h248, by rw [hrun]; omega⟩), hSLl, hSL], e3.dn, hG13.fc.tr e4⟩) _ (hz13.k (by obtain ⟨e1, e2, e3, e4⟩ := e16; exact e3.c1.trans hck13.1.symm))))
                            · refine v_bipush hX (by decide +kernel) (atL dAX8_show_2 31 rfl) ?_
                              exact v_iret hX (atL dAX8_show_2 32 rfl) ((hret _ _ ⟨A, by rw [show s13 10 0 0 = 0 by omega]; unfold f_show; simp only [Int.toNat_natCast, hPe, hKe, hF]; rw [if_neg (by omega), if_neg (by omega), if_neg (by omega), if_pos (Or.inr (Or.inr (fun q => absurd q.2.2 (by rw [hrun]; omega))))], hM.same hG13 hA13 hD13, hG13.fc⟩ _ hz13))
                        · refine v_iinc hX (lv' := [(9, .int (iI ((((1 + hl p1 + j : Nat) : Int)) + 1))), (8, .int (iI (fl))), (7, .int (iI ((hl p1 : Int)))), (6, .int (iI (((nby (K 0) : Nat) : Int)))), (0, .ref (w.1 13 0)), (1, .int (iI ((kx : Int)))), (2, .int (iI (p1))), (3, .int (iI ((sp2 : Int)))), (4, .int (iI ((sp3 : Int)))), (5, .int (iI ((sp4 : Int))))]) 0 rfl (iI_add _ _) (Nat.le_of_ble_eq_true rfl) rfl (atL dAX8_show_2 18 rfl) ?_
                          refine v_goto hX (tgt := 223) (atL dAX8_show_2 19 rfl) (by decide) ?_
                          refine v_sub (lv' := [(9, .int (iI ((((1 + hl p1 + j : Nat) : Int)) + 1))), (8, .int (iI (fl))), (7, .int (iI ((hl p1 : Int)))), (6, .int (iI (((nby (K 0) : Nat) : Int)))), (0, .ref (w.1 13 0)), (1, .int (iI ((kx : Int)))), (2, .int (iI (p1))), (3, .int (iI ((sp2 : Int)))), (4, .int (iI ((sp3 : Int)))), (5, .int (iI ((sp4 : Int))))]) [0, 1, 2, 3, 4, 5, 6, 7, 8, 9] rfl ?_
                          rw [show ((1 + hl p1 + j : Nat) : Int) + 1 = ((1 + hl p1 + (j + 1) : Nat) : Int) by omega]
                          exact ih (j + 1) (by omega) ⟨by omega, fun q h1 hq => by by_cases c : q = j; rw [c]; omega; exact hi2.2 q h1 (by omega)⟩
                    refine v_sub (lv' := [(9, .int (iI (((1 + hl p1 + hl p1 : Nat) : Int)))), (8, .int (iI (fl))), (7, .int (iI ((hl p1 : Int)))), (6, .int (iI (((nby (K 0) : Nat) : Int)))), (0, .ref (w.1 13 0)), (1, .int (iI ((kx : Int)))), (2, .int (iI (p1))), (3, .int (iI ((sp2 : Int)))), (4, .int (iI ((sp3 : Int)))), (5, .int (iI ((sp4 : Int))))]) [0, 1, 2, 3, 4, 5, 6, 7, 8, 9] rfl ?_
                    exact loop15 (nby (K 0) - hl p1 - 1 - hl p1) (hl p1) (by omega) ⟨Nat.le_refl _, fun q h1 hq => absurd hq (by omega)⟩
                  | succ d ih =>
                    intro j fl hj hi
                    have hfl := hi.r
                    refine v_iload hX 1 rfl (atL dAX8_show_1 40 rfl) ?_
                    refine v_iload hX 2 rfl (atL dAX8_show_1 41 rfl) ?_
                    refine v_icmp_ge hX ⟨by omega, by omega⟩ ⟨by omega, by omega⟩ (tgt := 215) (atL dAX8_show_1 42 rfl) (by decide) (fun h172 => absurd h172 (by omega)) (fun h172 => ?_)
                    refine v_iload hX 0 rfl (atL dAX8_show_1 43 rfl) ?_
                    refine v_if_eq hX ⟨by omega, by omega⟩ (tgt := 206) (atL dAX8_show_1 44 rfl) (by decide) (fun h177 => ?_) (fun h177 => ?_)
                    · refine v_iconst hX (atL dAX8_show_2 0 rfl) ?_
                      refine v_istore hX (lv' := [(8, .int (iI (0))), (9, .int (iI ((j : Int)))), (7, .int (iI ((hl p1 : Int)))), (6, .int (iI (((nby (K 0) : Nat) : Int)))), (0, .ref (w.1 13 0)), (1, .int (iI ((kx : Int)))), (2, .int (iI (p1))), (3, .int (iI ((sp2 : Int)))), (4, .int (iI ((sp3 : Int)))), (5, .int (iI ((sp4 : Int))))]) (Nat.le_of_ble_eq_true rfl) rfl (atL dAX8_show_2 1 rfl) ?_
                      refine v_iinc hX (lv' := [(9, .int (iI (((j : Int)) + 1))), (8, .int (iI (0))), (7, .int (iI ((hl p1 : Int)))), (6, .int (iI (((nby (K 0) : Nat) : Int)))), (0, .ref (w.1 13 0)), (1, .int (iI ((kx : Int)))), (2, .int (iI (p1))), (3, .int (iI ((sp2 : Int)))), (4, .int (iI ((sp3 : Int)))), (5, .int (iI ((sp4 : Int))))]) 1 rfl (iI_add _ _) (Nat.le_of_ble_eq_true rfl) rfl (atL dAX8_show_2 2 rfl) ?_
                      refine v_goto hX (tgt := 168) (atL dAX8_show_2 3 rfl) (by decide) ?_
                      refine v_sub (lv' := [(8, .int (iI (0))), (9, .int (iI (((j : Int)) + 1))), (7, .int (iI ((hl p1 : Int)))), (6, .int (iI (((nby (K 0) : Nat) : Int)))), (0, .ref (w.1 13 0)), (1, .int (iI ((kx : Int)))), (2, .int (iI (p1))), (3, .int (iI ((sp2 : Int)))), (4, .int (iI ((sp3 : Int)))), (5, .int (iI ((sp4 : Int))))]) [1, 0, 2, 3, 4, 5, 6, 7, 8, 9] rfl ?_
                      rw [show (j : Int) + 1 = ((j + 1 : Nat) : Int) by omega]
                      exact ih (j + 1) _ (by omega) (hi.s0 (by omega))
                    · refine v_aload_n hX 4 rfl (atL dAX8_show_1 45 rfl) ?_
                      refine gf_X8_147 hX hk0 (atL dAX8_show_1 46 rfl) ?_
                      refine v_iconst hX (atL dAX8_show_1 47 rfl) ?_
                      refine v_iload hX 2 rfl (atL dAX8_show_1 48 rfl) ?_
                      refine v_iadd hX (iI_add _ _) (atL dAX8_show_1 49 rfl) ?_
                      refine v_iload hX 1 rfl (atL dAX8_show_1 50 rfl) ?_
                      refine v_iadd hX (iI_add _ _) (atL dAX8_show_1 51 rfl) ?_
                      have hpv := hSD j (by omega)
                      have hpb := (show_b (h := p1) hFb).get j
                      refine v_iald hX (r := iI ((((showD p1 F).getD j 0 : Nat) : Int))) ((1 + hl p1 + j)) (hQ16 13 (by simp [mn, tp])) (fun _ => rfl) (by omega) (show 1 + hl p1 + j < 600 by omega) (by decide) (congrArg iI hpv) (atL dAX8_show_1 52 rfl) ?_
                      refine v_aload_n hX 4 rfl (atL dAX8_show_1 53 rfl) ?_
                      refine gf_X8_98 hX hk0 (atL dAX8_show_1 54 rfl) ?_
                      refine v_iload hX 1 rfl (atL dAX8_show_1 55 rfl) ?_
                      have hpv17 := h513.get (j := j) (by rw [(sha_len : (sha p1 (A.1 sp3)).length = hl p1)]; omega)
                      have hpb17 := (show BY (sha p1 (A.1 sp3)) from sha_lt).get j
                      refine v_iald hX (r := iI ((((sha p1 (A.1 sp3)).getD j 0 : Nat) : Int))) ((j)) (hQ16 5 (by simp [mn, tp])) (fun _ => rfl) (by omega) (show j < 32 by omega) (by decide) (congrArg iI hpv17) (atL dAX8_show_1 56 rfl) ?_
                      refine v_icmp_ne hX ⟨by omega, by omega⟩ ⟨by omega, by omega⟩ (tgt := 206) (atL dAX8_show_1 57 rfl) (by decide) (fun h199 => ?_) (fun h199 => ?_)
                      · refine v_iconst hX (atL dAX8_show_2 0 rfl) ?_
                        refine v_istore hX (lv' := [(8, .int (iI (0))), (9, .int (iI ((j : Int)))), (7, .int (iI ((hl p1 : Int)))), (6, .int (iI (((nby (K 0) : Nat) : Int)))), (0, .ref (w.1 13 0)), (1, .int (iI ((kx : Int)))), (2, .int (iI (p1))), (3, .int (iI ((sp2 : Int)))), (4, .int (iI ((sp3 : Int)))), (5, .int (iI ((sp4 : Int))))]) (Nat.le_of_ble_eq_true rfl) rfl (atL dAX8_show_2 1 rfl) ?_
                        refine v_iinc hX (lv' := [(9, .int (iI (((j : Int)) + 1))), (8, .int (iI (0))), (7, .int (iI ((hl p1 : Int)))), (6, .int (iI (((nby (K 0) : Nat) : Int)))), (0, .ref (w.1 13 0)), (1, .int (iI ((kx : Int)))), (2, .int (iI (p1))), (3, .int (iI ((sp2 : Int)))), (4, .int (iI ((sp3 : Int)))), (5, .int (iI ((sp4 : Int))))]) 1 rfl (iI_add _ _) (Nat.le_of_ble_eq_true rfl) rfl (atL dAX8_show_2 2 rfl) ?_
                        refine v_goto hX (tgt := 168) (atL dAX8_show_2 3 rfl) (by decide) ?_
                        refine v_sub (lv' := [(8, .int (iI (0))), (9, .int (iI (((j : Int)) + 1))), (7, .int (iI ((hl p1 : Int)))), (6, .int (iI (((nby (K 0) : Nat) : Int)))), (0, .ref (w.1 13 0)), (1, .int (iI ((kx : Int)))), (2, .int (iI (p1))), (3, .int (iI ((sp2 : Int)))), (4, .int (iI ((sp3 : Int)))), (5, .int (iI ((sp4 : Int))))]) [1, 0, 2, 3, 4, 5, 6, 7, 8, 9] rfl ?_
                        rw [show (j : Int) + 1 = ((j + 1 : Nat) : Int) by omega]
                        exact ih (j + 1) _ (by omega) (EQd.n (by omega))
                      · refine v_iconst hX (atL dAX8_show_1 58 rfl) ?_
                        refine v_goto hX (tgt := 207) (atL dAX8_show_1 59 rfl) (by decide) ?_
                        refine v_istore hX (lv' := [(8, .int (iI (1))), (9, .int (iI ((j : Int)))), (7, .int (iI ((hl p1 : Int)))), (6, .int (iI (((nby (K 0) : Nat) : Int)))), (0, .ref (w.1 13 0)), (1, .int (iI ((kx : Int)))), (2, .int (iI (p1))), (3, .int (iI ((sp2 : Int)))), (4, .int (iI ((sp3 : Int)))), (5, .int (iI ((sp4 : Int))))]) (Nat.le_of_ble_eq_true rfl) rfl (atL dAX8_show_2 1 rfl) ?_
                        refine v_iinc hX (lv' := [(9, .int (iI (((j : Int)) + 1))), (8, .int (iI (1))), (7, .int (iI ((hl p1 : Int)))), (6, .int (iI (((nby (K 0) : Nat) : Int)))), (0, .ref (w.1 13 0)), (1, .int (iI ((kx : Int)))), (2, .int (iI (p1))), (3, .int (iI ((sp2 : Int)))), (4, .int (iI ((sp3 : Int)))), (5, .int (iI ((sp4 : Int))))]) 1 rfl (iI_add _ _) (Nat.le_of_ble_eq_true rfl) rfl (atL dAX8_show_2 2 rfl) ?_
                        refine v_goto hX (tgt := 168) (atL dAX8_show_2 3 rfl) (by decide) ?_
                        refine v_sub (lv' := [(8, .int (iI (1))), (9, .int (iI (((j : Int)) + 1))), (7, .int (iI ((hl p1 : Int)))), (6, .int (iI (((nby (K 0) : Nat) : Int)))), (0, .ref (w.1 13 0)), (1, .int (iI ((kx : Int)))), (2, .int (iI (p1))), (3, .int (iI ((sp2 : Int)))), (4, .int (iI ((sp3 : Int)))), (5, .int (iI ((sp4 : Int))))]) [1, 0, 2, 3, 4, 5, 6, 7, 8, 9] rfl ?_
                        rw [show (j : Int) + 1 = ((j + 1 : Nat) : Int) by omega]
                        exact ih (j + 1) _ (by omega) (hi.s1 (by omega) (by omega))
                refine v_sub (lv' := [(8, .int (iI (1))), (9, .int (iI (0))), (7, .int (iI ((hl p1 : Int)))), (6, .int (iI (((nby (K 0) : Nat) : Int)))), (0, .ref (w.1 13 0)), (1, .int (iI ((kx : Int)))), (2, .int (iI (p1))), (3, .int (iI ((sp2 : Int)))), (4, .int (iI ((sp3 : Int)))), (5, .int (iI ((sp4 : Int))))]) [1, 0, 2, 3, 4, 5, 6, 7, 8, 9] rfl ?_
                exact loop14 (hl p1) 0 1 (by omega) EQd.z
              · refine v_bipush hX (by decide +kernel) (atL dAX8_show_0 48 rfl) ?_
                exact v_iret hX (atL dAX8_show_0 49 rfl) ((hret _ _ ⟨A, by rw [show s6 10 0 0 = 0 by omega]; unfold f_show; simp only [Int.toNat_natCast, hPe, hKe, hF]; rw [if_neg (by omega), if_neg (by omega), if_neg (by omega), if_pos (Or.inr (Or.inr (fun q => absurd q.1 (by omega))))], hM.same hG6 hA6 hD6, hG6.fc⟩ _ hz6))
        · refine v_bipush hX (by decide +kernel) (atL dAX8_show_0 21 rfl) ?_
          exact v_iret hX (atL dAX8_show_0 22 rfl) ((hret _ _ ⟨A, by rw [show s3 10 0 0 = 0 by omega]; unfold f_show; simp only [Int.toNat_natCast, hPe, hKe]; rw [if_neg (by omega), if_neg (by omega), if_pos (by omega)], hM.same hG3 hA3 hD3, hG3.fc⟩ _ hz3))
      · refine v_iconst hX (atL dAX8_show_0 14 rfl) ?_
        exact v_iret hX (atL dAX8_show_0 15 rfl) ((hret _ _ ⟨A, by rw [show s3 10 0 0 = 2 by omega]; unfold f_show; rw [if_neg (by omega), if_pos (by omega)], hM.same hG3 hA3 hD3, hG3.fc⟩ _ hz3))
