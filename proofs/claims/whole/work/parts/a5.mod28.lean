set_option maxHeartbeats 1000000 in
set_option maxRecDepth 100000 in
theorem c_X8_empty [Gh] (l : Launch) (w : Wl) (σ : St) (hk0 : w.2 13 0) (A : Ab) (hM : HM σ A) (p0 : Int) (hp0 : rI p0) (p1 : Int) (hp1 : rI p1) (p2 : Int) (hp2 : rI p2) : Cn l yX8_empty cX8_empty 6 (Option.some Jvm.ClassFile.FieldType.int) 7 177 wI [.ref (w.1 13 0), .int (iI (p0)), .int (iI (p1)), .int (iI (p2))] w σ (fun a σ' => ∃ A', f_empty A p0 p1 p2 = (σ' 10 0 0, a, A') ∧ HM σ' A' ∧ FC σ σ') := by
  refine Cn.of (own := RX8) (lv := [(0, .ref (w.1 13 0)), (1, .int (iI (p0))), (2, .int (iI (p1))), (3, .int (iI (p2)))]) (by decide +kernel) rfl (Nat.le_of_ble_eq_true rfl) rfl (fun X hX hxl hR hcl hret => ?_)
  subst hxl
  have hQ : ∀ q, (14, q) ∈ mn σ 13 0 → w.2 14 q := fun q h => hcl 13 0 hk0 (14, q) h
  have hQ5 : ∀ q, (14, q) ∈ mn σ 13 0 → w.2 15 q := fun q h => hcl 14 q (hQ q h) (15, q) (by simp [mn, tp])
  have hQ16 : ∀ q, (16, q) ∈ mn σ 13 0 → w.2 16 q := fun q h => hcl 13 0 hk0 (16, q) h
  have hp0a := hp0.1
  have hp0b := hp0.2
  have hp1a := hp1.1
  have hp1b := hp1.2
  have hp2a := hp2.1
  have hp2b := hp2.2
  refine v_aload_n hX 0 rfl (atL dAX8_empty_0 0 rfl) ?_
  refine v_iload_n hX 2 rfl (atL dAX8_empty_0 1 rfl) ?_
  refine v_iload_n hX 3 rfl (atL dAX8_empty_0 2 rfl) ?_
  refine v_iload_n hX 3 rfl (atL dAX8_empty_0 3 rfl) ?_
  refine v_callV hX (As := [.int (iI (p1)), .int (iI (p2)), .int (iI (p2))]) (rest := []) (c_X8_are (xl X) w σ hk0 p1 hp1 p2 hp2 p2 hp2) lk_X8_240 hk0 (fun _ => rfl) rfl rfl rfl (by rw [hR]; exact ⟨Nat.le_of_ble_eq_true rfl, Nat.le_of_ble_eq_true rfl⟩) ⟨Nat.zero_le _, Nat.zero_le _⟩ rfl (Nat.le_of_ble_eq_true rfl) (atL dAX8_empty_0 4 rfl) (fun r1 s1 g1 => ?_)
  obtain ⟨gs1, ht1, hG1, hA1, hD1⟩ := are_use g1 FG.rf hM.2.1 hM.2.2
  have gd1 : r1 = 0 ∨ r1 = 1 := by rcases gs1 with q | q <;> omega
  show V X _ w _ _ s1 [.int (iI (r1))]
  refine v_if_eq hX ⟨by omega, by omega⟩ (tgt := 18) (atL dAX8_empty_0 5 rfl) (by decide) (fun h7 => ?_) (fun h7 => ?_)
  · refine v_iconst hX (atL dAX8_empty_0 10 rfl) ?_
    exact v_iret hX (atL dAX8_empty_0 11 rfl) (hret _ _ ⟨A, by rw [show s1 10 0 0 = 1 by omega]; unfold f_empty; rw [if_pos (by omega)], hM.same hG1 hA1 hD1, hG1.fc⟩)
  · refine v_aload_n hX 0 rfl (atL dAX8_empty_0 6 rfl) ?_
    refine v_iload_n hX 1 rfl (atL dAX8_empty_0 7 rfl) ?_
    refine v_callV hX (As := [.int (iI (p0))]) (rest := []) (c_X8_isKey (xl X) w s1 hk0 p0 hp0 A.2.1 (hM.1.fg hG1).2.2.1 hM.1.2.2.2.1) lk_X8_370 hk0 (fun _ => rfl) rfl rfl rfl (by rw [hR]; exact ⟨Nat.le_of_ble_eq_true rfl, Nat.le_of_ble_eq_true rfl⟩) ⟨Nat.zero_le _, Nat.zero_le _⟩ rfl (Nat.le_of_ble_eq_true rfl) (atL dAX8_empty_0 8 rfl) (fun r2 s2 g2 => ?_)
    obtain ⟨gs2, ht2, hG2, hA2, hD2⟩ := iss_use g2 (by omega) hG1 hA1 hD1
    have gd2 : r2 = 0 ∨ r2 = 1 := by rcases gs2 with q | q <;> omega
    show V X _ w _ _ s2 [.int (iI (r2))]
    refine v_if_ne hX ⟨by omega, by omega⟩ (tgt := 20) (atL dAX8_empty_0 9 rfl) (by decide) (fun h15 => ?_) (fun h15 => ?_)
    · obtain ⟨sp1, rfl⟩ : ∃ q : Nat, p1 = (q : Int) := ⟨p1.toNat, by omega⟩
      obtain ⟨sp2, rfl⟩ : ∃ q : Nat, p2 = (q : Int) := ⟨p2.toNat, by omega⟩
      obtain ⟨lsp1, hlsp1⟩ : ∃ q, (A.1 sp1).length = q := ⟨_, rfl⟩
      have hqsp1 : lsp1 ≤ 256 := by rw [← hlsp1]; exact hM.1.len (by omega)
      have hbvsp1 : lb (rv (A.1 sp1)) 128 := rv_lb (hM.1.by (by omega)) (hM.1.len (by omega))
      obtain ⟨lsp2, hlsp2⟩ : ∃ q, (A.1 sp2).length = q := ⟨_, rfl⟩
      have hqsp2 : lsp2 ≤ 256 := by rw [← hlsp2]; exact hM.1.len (by omega)
      have hbvsp2 : lb (rv (A.1 sp2)) 128 := rv_lb (hM.1.by (by omega)) (hM.1.len (by omega))
      obtain ⟨kx, rfl⟩ : ∃ q : Nat, p0 = (q : Int) := ⟨p0.toNat, by omega⟩
      obtain ⟨P, hPe⟩ : ∃ q, A.2.2.1 kx = q := ⟨_, rfl⟩
      obtain ⟨K, hKe⟩ : ∃ q, A.2.2.2 kx = q := ⟨_, rfl⟩
      have hK : KM σ kx P K := by rw [← hPe, ← hKe]; exact hM.1.2.2.2.2 kx (by omega)
      have hk16 := hM.1.2.2.2.1
      have hPP := hK.1
      have hkb : ∀ j, j < P → lb (K j) 64 := fun j hj => by have := (hK.2.2.1 j hj).2.1; exact nby_lb this
      have hK0 := hK.2.2.2
      have hKn := (hK.2.2.1 0 (by omega)).2.1
      have hKn1 := nby_pos hK0
      have hKnb : nby (K 0) = (blen (K 0) + 7) / 8 := rfl
      have hblK := blen_pos hK0
      refine v_aload_n hX 0 rfl (atL dAX8_empty_0 12 rfl) ?_
      refine gf_X8_122 hX hk0 (atL dAX8_empty_0 13 rfl) ?_
      refine v_iload_n hX 1 rfl (atL dAX8_empty_0 14 rfl) ?_
      obtain ⟨ow, how⟩ : ∃ q : Int, (if P = 8 then 1 else 0) = q := ⟨_, rfl⟩
      have hwo : (ow = 1 ∧ P = 8) ∨ (ow = 0 ∧ P = 2) := by rcases hPP with e | e <;> subst e <;> simp at how <;> omega
      refine v_zald hX (r := iI (ow)) kx (hcl 13 0 hk0 (17, 0) (by simp [mn, tp])) (fun _ => rfl) rfl (show kx < 16 by omega) (by decide) (congrArg iI ((hK.fg hG2).2.1.trans how)) (atL dAX8_empty_0 15 rfl) ?_
      refine v_if_ne hX ⟨by omega, by omega⟩ (tgt := 32) (atL dAX8_empty_0 16 rfl) (by decide) (fun h26 => ?_) (fun h26 => ?_)
      · refine v_aload_n hX 0 rfl (atL dAX8_empty_0 19 rfl) ?_
        refine v_iload_n hX 1 rfl (atL dAX8_empty_0 20 rfl) ?_
        refine v_callV hX (As := [.int (iI ((kx : Int)))]) (rest := []) (c_X8_lengthOf (xl X) w s2 hk0 hA2 kx (by omega) P K (hK.fg hG2)) lk_X8_380 hk0 (fun _ => rfl) rfl rfl rfl (by rw [hR]; exact ⟨Nat.le_of_ble_eq_true rfl, Nat.le_of_ble_eq_true rfl⟩) ⟨Nat.zero_le _, Nat.zero_le _⟩ rfl (Nat.le_of_ble_eq_true rfl) (atL dAX8_empty_0 21 rfl) (fun r3 s3 e3 => ?_)
        obtain ⟨ga3, hw3, hf3⟩ := e3
        subst ga3
        have hA3 := hA2.one hf3 hw3
        have hG3 := hG2.fr hf3 rfl (by decide)
        have hD3 := hD2.fr hf3 (by decide) (by decide) (by decide)
        have ht3 : s3 10 0 0 = 0 := by rw [hf3 10 0 (by decide)]; omega
        show V X _ w _ _ s3 [.int (iI (((nby (K 0) : Nat) : Int)))]
        refine v_istore hX (lv' := [(4, .int (iI (((nby (K 0) : Nat) : Int)))), (0, .ref (w.1 13 0)), (1, .int (iI ((kx : Int)))), (2, .int (iI ((sp1 : Int)))), (3, .int (iI ((sp2 : Int))))]) (Nat.le_of_ble_eq_true rfl) rfl (atL dAX8_empty_0 22 rfl) ?_
        refine v_iload hX 0 rfl (atL dAX8_empty_0 23 rfl) ?_
        refine v_bipush hX (by decide +kernel) (atL dAX8_empty_0 24 rfl) ?_
        refine v_icmp_lt hX ⟨by omega, by omega⟩ ⟨by omega, by omega⟩ (tgt := 75) (atL dAX8_empty_0 25 rfl) (by decide) (fun h43 => ?_) (fun h43 => ?_)
        · refine v_bipush hX (by decide +kernel) (atL dAX8_empty_0 43 rfl) ?_
          exact v_iret hX (atL dAX8_empty_0 44 rfl) (hret _ _ ⟨A, by rw [show s3 10 0 0 = 0 by omega]; unfold f_empty; simp only [Int.toNat_natCast, hPe, hKe]; rw [if_neg (by omega), if_neg (by omega), if_pos (Or.inl (by omega))], hM.same hG3 hA3 hD3, hG3.fc⟩)
        · refine v_aload_n hX 1 rfl (atL dAX8_empty_0 26 rfl) ?_
          refine v_iload_n hX 2 rfl (atL dAX8_empty_0 27 rfl) ?_
          refine v_iconst hX (atL dAX8_empty_0 28 rfl) ?_
          refine v_iload_n hX 3 rfl (atL dAX8_empty_0 29 rfl) ?_
          refine v_callV hX (As := [.int (iI ((kx : Int))), .int (iI (2)), .int (iI ((sp1 : Int)))]) (rest := []) (c_X8_opened (xl X) w s3 hk0 A (hM.same hG3 hA3 hD3) (by omega) kx (by omega) P K (hK.fg hG3) 1 (by omega) sp1 (by omega)) lk_X8_391 hk0 (fun _ => rfl) rfl rfl rfl (by rw [hR]; exact ⟨Nat.le_of_ble_eq_true rfl, Nat.le_of_ble_eq_true rfl⟩) ⟨Nat.zero_le _, Nat.zero_le _⟩ rfl (Nat.le_of_ble_eq_true rfl) (atL dAX8_empty_0 30 rfl) (fun r4 s4 e4 => ?_)
          obtain ⟨gc4, hA4, hO4⟩ := e4
          have gd4 : r4 = 0 ∨ r4 = 1 := by rcases gc4 with q | q <;> omega
          have hG4 := FO.fg hG3 hO4
          have hD4 := FO.dg hD3 hO4
          have ht4 : s4 10 0 0 = 0 := by rw [hO4.2 0 (by decide)]; omega
          show V X _ w _ _ s4 [.int (iI (r4))]
          refine v_if_eq hX ⟨by omega, by omega⟩ (tgt := 75) (atL dAX8_empty_0 31 rfl) (by decide) (fun h53 => ?_) (fun h53 => ?_)
          · refine v_bipush hX (by decide +kernel) (atL dAX8_empty_0 43 rfl) ?_
            exact v_iret hX (atL dAX8_empty_0 44 rfl) (hret _ _ ⟨A, by rw [show s4 10 0 0 = 0 by omega]; unfold f_empty; simp only [Int.toNat_natCast, hPe, hKe]; rw [if_neg (by omega), if_neg (by omega), if_pos (Or.inr (Or.inl (gc4.resolve_left (fun q => by omega)).2))], hM.same hG4 hA4 hD4, hG4.fc⟩)
          · obtain ⟨-, hwr, hAW⟩ := gc4.resolve_right (fun q => by omega)
            obtain ⟨F, hF⟩ : ∃ q, tn K 1 (A.1 sp1) = q := ⟨_, rfl⟩
            rw [hF] at hAW
            have hFl : F.length = nby (K 0) := by rw [← hF]; exact tn_len
            have hFb : BY F := by rw [← hF]; exact be_by
            refine v_aload_n hX 1 rfl (atL dAX8_empty_0 32 rfl) ?_
            refine gf_X8_147 hX hk0 (atL dAX8_empty_0 33 rfl) ?_
            refine v_iconst hX (atL dAX8_empty_0 34 rfl) ?_
            have hpv5 := hAW.get (j := 0) (by rw [hFl]; omega)
            have hpb5 := hFb.get 0
            refine v_iald hX (r := iI (((F.getD 0 0 : Nat) : Int))) 0 (hQ16 13 (by simp [mn, tp])) (fun _ => rfl) rfl (show 0 < 600 by omega) (by decide) (congrArg iI hpv5) (atL dAX8_empty_0 35 rfl) ?_
            refine v_if_ne hX ⟨by omega, by omega⟩ (tgt := 75) (atL dAX8_empty_0 36 rfl) (by decide) (fun h62 => ?_) (fun h62 => ?_)
            · refine v_bipush hX (by decide +kernel) (atL dAX8_empty_0 43 rfl) ?_
              exact v_iret hX (atL dAX8_empty_0 44 rfl) (hret _ _ ⟨A, by rw [show s4 10 0 0 = 0 by omega]; unfold f_empty; simp only [Int.toNat_natCast, hPe, hKe, hF]; rw [if_neg (by omega), if_neg (by omega), if_pos (Or.inr (Or.inr (fun q => absurd q.1 (by omega))))], hM.same hG4 hA4 hD4, hG4.fc⟩)
            · refine v_aload_n hX 1 rfl (atL dAX8_empty_0 37 rfl) ?_
              refine gf_X8_147 hX hk0 (atL dAX8_empty_0 38 rfl) ?_
              refine v_iconst hX (atL dAX8_empty_0 39 rfl) ?_
              have hpv6 := hAW.get (j := 1) (by rw [hFl]; omega)
              have hpb6 := hFb.get 1
              refine v_iald hX (r := iI (((F.getD 1 0 : Nat) : Int))) 1 (hQ16 13 (by simp [mn, tp])) (fun _ => rfl) rfl (show 1 < 600 by omega) (by decide) (congrArg iI hpv6) (atL dAX8_empty_0 40 rfl) ?_
              refine v_iconst hX (atL dAX8_empty_0 41 rfl) ?_
              refine v_icmp_eq hX ⟨by omega, by omega⟩ ⟨by omega, by omega⟩ (tgt := 78) (atL dAX8_empty_0 42 rfl) (by decide) (fun h72 => ?_) (fun h72 => ?_)
              · refine v_iconst hX (atL dAX8_empty_0 45 rfl) ?_
                refine v_istore hX (lv' := [(5, .int (iI (2))), (4, .int (iI (((nby (K 0) : Nat) : Int)))), (0, .ref (w.1 13 0)), (1, .int (iI ((kx : Int)))), (2, .int (iI ((sp1 : Int)))), (3, .int (iI ((sp2 : Int))))]) (Nat.le_of_ble_eq_true rfl) rfl (atL dAX8_empty_0 46 rfl) ?_
                have loop7 : ∀ (d j : Nat), j + d = nby (K 0) → (2 ≤ j ∧ ∀ q, 2 ≤ q → q < j → F.getD q 0 ≠ 0) → V X (0, 0) w 81 [(5, .int (iI ((j : Int)))), (4, .int (iI (((nby (K 0) : Nat) : Int)))), (0, .ref (w.1 13 0)), (1, .int (iI ((kx : Int)))), (2, .int (iI ((sp1 : Int)))), (3, .int (iI ((sp2 : Int))))] s4 [] := by
                  intro d
                  induction d with
                  | zero =>
                    intro j hj hi
                    have hjN : j = nby (K 0) := by omega
                    subst j
                    have hrun : emptyN F = nby (K 0) - 2 := run_eq (by rw [hFl]; omega) (fun q h1 hq => by simpa using hi.2 q (by omega) (by omega)) (Or.inl (by rw [hFl]; omega))
                    refine v_iload hX 0 rfl (atL dAX8_empty_0 47 rfl) ?_
                    refine v_iload hX 1 rfl (atL dAX8_empty_0 48 rfl) ?_
                    refine v_icmp_ge hX ⟨by omega, by omega⟩ ⟨by omega, by omega⟩ (tgt := 104) (atL dAX8_empty_0 49 rfl) (by decide) (fun h85 => ?_) (fun h85 => absurd h85 (by omega))
                    refine v_iload hX 0 rfl (atL dAX8_empty_0 57 rfl) ?_
                    refine v_iload hX 1 rfl (atL dAX8_empty_0 58 rfl) ?_
                    refine v_icmp_eq hX ⟨by omega, by omega⟩ ⟨by omega, by omega⟩ (tgt := 118) (atL dAX8_empty_0 59 rfl) (by decide) (fun h108 => ?_) (fun h108 => absurd h108 (by omega))
                    refine v_bipush hX (by decide +kernel) (atL dAX8_empty_1 3 rfl) ?_
                    exact v_iret hX (atL dAX8_empty_1 4 rfl) (hret _ _ ⟨A, by rw [show s4 10 0 0 = 0 by omega]; unfold f_empty; simp only [Int.toNat_natCast, hPe, hKe, hF]; rw [if_neg (by omega), if_neg (by omega), if_pos (Or.inr (Or.inr (fun q => absurd q.2.2.2 (by rw [hrun, hFl]; omega))))], hM.same hG4 hA4 hD4, hG4.fc⟩)
                  | succ d ih =>
                    intro j hj hi
                    refine v_iload hX 0 rfl (atL dAX8_empty_0 47 rfl) ?_
                    refine v_iload hX 1 rfl (atL dAX8_empty_0 48 rfl) ?_
                    refine v_icmp_ge hX ⟨by omega, by omega⟩ ⟨by omega, by omega⟩ (tgt := 104) (atL dAX8_empty_0 49 rfl) (by decide) (fun h85 => absurd h85 (by omega)) (fun h85 => ?_)
                    refine v_aload_n hX 2 rfl (atL dAX8_empty_0 50 rfl) ?_
                    refine gf_X8_147 hX hk0 (atL dAX8_empty_0 51 rfl) ?_
                    refine v_iload hX 0 rfl (atL dAX8_empty_0 52 rfl) ?_
                    have hpv8 := hAW.get (j := j) (by rw [hFl]; omega)
                    have hpb8 := hFb.get j
                    refine v_iald hX (r := iI (((F.getD j 0 : Nat) : Int))) ((j)) (hQ16 13 (by simp [mn, tp])) (fun _ => rfl) (by omega) (show j < 600 by omega) (by decide) (congrArg iI hpv8) (atL dAX8_empty_0 53 rfl) ?_
                    refine v_if_eq hX ⟨by omega, by omega⟩ (tgt := 104) (atL dAX8_empty_0 54 rfl) (by decide) (fun h95 => ?_) (fun h95 => ?_)
                    · have hrun : emptyN F = j - 2 := run_eq (by rw [hFl]; omega) (fun q h1 hq => by simpa using hi.2 q (by omega) (by omega)) (Or.inr (by rw [show 2 + (j - 2) = j by omega, show F.getD j 0 = 0 by omega]; decide))
                      refine v_iload hX 0 rfl (atL dAX8_empty_0 57 rfl) ?_
                      refine v_iload hX 1 rfl (atL dAX8_empty_0 58 rfl) ?_
                      refine v_icmp_eq hX ⟨by omega, by omega⟩ ⟨by omega, by omega⟩ (tgt := 118) (atL dAX8_empty_0 59 rfl) (by decide) (fun h108 => absurd h108 (by omega)) (fun h108 => ?_)
                      refine v_iload hX 0 rfl (atL dAX8_empty_1 0 rfl) ?_
                      refine v_bipush hX (by decide +kernel) (atL dAX8_empty_1 1 rfl) ?_
                      refine v_icmp_ge hX ⟨by omega, by omega⟩ ⟨by omega, by omega⟩ (tgt := 121) (atL dAX8_empty_1 2 rfl) (by decide) (fun h115 => ?_) (fun h115 => ?_)
                      · have hEL : emptyL F = F.drop (j + 1) := by unfold emptyL; rw [hrun, show 2 + (j - 2) = j by omega]; exact drop_take_all (by omega)
                        refine v_aload_n hX 2 rfl (atL dAX8_empty_1 5 rfl) ?_
                        refine v_iload hX 0 rfl (atL dAX8_empty_1 6 rfl) ?_
                        refine v_iconst hX (atL dAX8_empty_1 7 rfl) ?_
                        refine v_iadd hX (iI_add _ _) (atL dAX8_empty_1 8 rfl) ?_
                        rw [show (((j : Int)) + 1) = ((j + 1 : Nat) : Int) from (by omega)]
                        refine v_iload hX 1 rfl (atL dAX8_empty_1 9 rfl) ?_
                        refine v_iload_n hX 5 rfl (atL dAX8_empty_1 10 rfl) ?_
                        refine v_callV hX (As := [.int (iI (((j + 1 : Nat) : Int))), .int (iI (((nby (K 0) : Nat) : Int))), .int (iI ((sp2 : Int)))]) (rest := []) (c_X8_shows (xl X) w s4 hk0 A (hM.same hG4 hA4 hD4) (by omega) F (nby (K 0)) hFl hAW hFb (by omega) (j + 1) (by omega) sp2 (by omega)) lk_X8_394 hk0 (fun _ => rfl) rfl rfl rfl (by rw [hR]; exact ⟨Nat.le_of_ble_eq_true rfl, Nat.le_of_ble_eq_true rfl⟩) ⟨Nat.zero_le _, Nat.zero_le _⟩ rfl (Nat.le_of_ble_eq_true rfl) (atL dAX8_empty_1 11 rfl) (fun r9 s9 e9 => ?_)
                        show V X _ w _ _ s9 [.int (iI (r9))]
                        exact v_iret hX (atL dAX8_empty_1 12 rfl) (hret _ _ (by obtain ⟨e1, e2, e3, e4⟩ := e9; exact ⟨_, by rw [e2, e1]; unfold f_empty; simp only [Int.toNat_natCast, hPe, hKe, hF]; rw [if_neg (by omega), if_neg (by omega), if_neg (fun q => by rcases q with q | q | q; omega; exact q hwr; exact q ⟨by omega, by omega, by rw [hrun]; omega, by rw [hrun, hFl]; omega⟩), hEL, List.length_drop, hFl], e3, hG4.fc.tr e4⟩))
                      · refine v_bipush hX (by decide +kernel) (atL dAX8_empty_1 3 rfl) ?_
                        exact v_iret hX (atL dAX8_empty_1 4 rfl) (hret _ _ ⟨A, by rw [show s4 10 0 0 = 0 by omega]; unfold f_empty; simp only [Int.toNat_natCast, hPe, hKe, hF]; rw [if_neg (by omega), if_neg (by omega), if_pos (Or.inr (Or.inr (fun q => absurd q.2.2.1 (by rw [hrun]; omega))))], hM.same hG4 hA4 hD4, hG4.fc⟩)
                    · refine v_iinc hX (lv' := [(5, .int (iI (((j : Int)) + 1))), (4, .int (iI (((nby (K 0) : Nat) : Int)))), (0, .ref (w.1 13 0)), (1, .int (iI ((kx : Int)))), (2, .int (iI ((sp1 : Int)))), (3, .int (iI ((sp2 : Int))))]) 0 rfl (iI_add _ _) (Nat.le_of_ble_eq_true rfl) rfl (atL dAX8_empty_0 55 rfl) ?_
                      refine v_goto hX (tgt := 81) (atL dAX8_empty_0 56 rfl) (by decide) ?_
                      refine v_sub (lv' := [(5, .int (iI (((j : Int)) + 1))), (4, .int (iI (((nby (K 0) : Nat) : Int)))), (0, .ref (w.1 13 0)), (1, .int (iI ((kx : Int)))), (2, .int (iI ((sp1 : Int)))), (3, .int (iI ((sp2 : Int))))]) [0, 1, 2, 3, 4, 5] rfl ?_
                      rw [show (j : Int) + 1 = ((j + 1 : Nat) : Int) by omega]
                      exact ih (j + 1) (by omega) ⟨by omega, fun q h2 hq => by by_cases c : q = j; rw [c]; omega; exact hi.2 q h2 (by omega)⟩
                refine v_sub (lv' := [(5, .int (iI (2))), (4, .int (iI (((nby (K 0) : Nat) : Int)))), (0, .ref (w.1 13 0)), (1, .int (iI ((kx : Int)))), (2, .int (iI ((sp1 : Int)))), (3, .int (iI ((sp2 : Int))))]) [0, 1, 2, 3, 4, 5] rfl ?_
                exact loop7 (nby (K 0) - 2) 2 (by omega) ⟨by omega, fun q h2 hq => absurd hq (by omega)⟩
              · refine v_bipush hX (by decide +kernel) (atL dAX8_empty_0 43 rfl) ?_
                exact v_iret hX (atL dAX8_empty_0 44 rfl) (hret _ _ ⟨A, by rw [show s4 10 0 0 = 0 by omega]; unfold f_empty; simp only [Int.toNat_natCast, hPe, hKe, hF]; rw [if_neg (by omega), if_neg (by omega), if_pos (Or.inr (Or.inr (fun q => absurd q.2.1 (by omega))))], hM.same hG4 hA4 hD4, hG4.fc⟩)
      · refine v_bipush hX (by decide +kernel) (atL dAX8_empty_0 17 rfl) ?_
        exact v_iret hX (atL dAX8_empty_0 18 rfl) (hret _ _ ⟨A, by rw [show s2 10 0 0 = 0 by omega]; unfold f_empty; simp only [Int.toNat_natCast, hPe, hKe]; rw [if_neg (by omega), if_pos (by omega)], hM.same hG2 hA2 hD2, hG2.fc⟩)
    · refine v_iconst hX (atL dAX8_empty_0 10 rfl) ?_
      exact v_iret hX (atL dAX8_empty_0 11 rfl) (hret _ _ ⟨A, by rw [show s2 10 0 0 = 1 by omega]; unfold f_empty; rw [if_pos (by omega)], hM.same hG2 hA2 hD2, hG2.fc⟩)

set_option maxHeartbeats 1000000 in
set_option maxRecDepth 100000 in
theorem c_X8_head (l : Launch) (w : Wl) (σ : St) (h : Int) (hh : rI h) (i : Nat) (hi : i < 19) : Cn l yX8_head cX8_head 2 (Option.some Jvm.ClassFile.FieldType.int) 0 0 wI [.int (iI (h)), .int (iI ((i : Int)))] w σ (fun a σ' => a = (((nam h).getD i 0 : Nat) : Int) ∧ σ' = σ) := by
  refine Cn.of (own := RX8) (lv := [(0, .int (iI (h))), (1, .int (iI ((i : Int))))]) (by decide +kernel) rfl (Nat.le_of_ble_eq_true rfl) rfl (fun X hX hxl hR hcl hret => ?_)
  subst hxl
  refine v_iload_n hX 1 rfl (atL dAX8_head_0 0 rfl) ?_
  rcases (show (i : Int) = 0 ∨ (i : Int) = 1 ∨ (i : Int) = 2 ∨ (i : Int) = 3 ∨ (i : Int) = 4 ∨ (i : Int) = 5 ∨ (i : Int) = 6 ∨ (i : Int) = 7 ∨ (i : Int) = 8 ∨ (i : Int) = 9 ∨ (i : Int) = 10 ∨ (i : Int) = 11 ∨ (i : Int) = 12 ∨ (i : Int) = 13 ∨ (i : Int) = 14 ∨ (i : Int) = 15 ∨ (i : Int) = 16 ∨ (i : Int) = 17 ∨ ((i : Int) < 0 ∨ 17 < (i : Int)) by omega) with tq1 | tq1 | tq1 | tq1 | tq1 | tq1 | tq1 | tq1 | tq1 | tq1 | tq1 | tq1 | tq1 | tq1 | tq1 | tq1 | tq1 | tq1 | tq1
  · refine v_tsIn hX (c := 0) tq1 ⟨by omega, by omega⟩ (atL dAX8_head_0 1 rfl) (by decide) (by decide) rfl (tgt := 88) (by decide) ?_
    refine v_bipush hX (by decide +kernel) (atL dAX8_head_0 2 rfl) ?_
    exact v_iret hX (atL dAX8_head_0 3 rfl) (hret _ _ ⟨by rw [show i = 0 by omega]; by_cases e : h = 0; (rw [nam0 e]; first | rfl | (exfalso; omega)); (rw [nam1 e]; first | rfl | (exfalso; omega)), rfl⟩)
  · refine v_tsIn hX (c := 1) tq1 ⟨by omega, by omega⟩ (atL dAX8_head_0 1 rfl) (by decide) (by decide) rfl (tgt := 91) (by decide) ?_
    refine v_iload_n hX 0 rfl (atL dAX8_head_0 4 rfl) ?_
    refine v_if_ne hX hh (tgt := 100) (atL dAX8_head_0 5 rfl) (by decide) (fun h92 => ?_) (fun h92 => ?_)
    · refine v_bipush hX (by decide +kernel) (atL dAX8_head_0 8 rfl) ?_
      exact v_iret hX (atL dAX8_head_0 9 rfl) (hret _ _ ⟨by rw [show i = 1 by omega]; by_cases e : h = 0; (rw [nam0 e]; first | rfl | (exfalso; omega)); (rw [nam1 e]; first | rfl | (exfalso; omega)), rfl⟩)
    · refine v_bipush hX (by decide +kernel) (atL dAX8_head_0 6 rfl) ?_
      refine v_goto hX (tgt := 102) (atL dAX8_head_0 7 rfl) (by decide) ?_
      exact v_iret hX (atL dAX8_head_0 9 rfl) (hret _ _ ⟨by rw [show i = 1 by omega]; by_cases e : h = 0; (rw [nam0 e]; first | rfl | (exfalso; omega)); (rw [nam1 e]; first | rfl | (exfalso; omega)), rfl⟩)
  · refine v_tsIn hX (c := 2) tq1 ⟨by omega, by omega⟩ (atL dAX8_head_0 1 rfl) (by decide) (by decide) rfl (tgt := 103) (by decide) ?_
    refine v_bipush hX (by decide +kernel) (atL dAX8_head_0 10 rfl) ?_
    exact v_iret hX (atL dAX8_head_0 11 rfl) (hret _ _ ⟨by rw [show i = 2 by omega]; by_cases e : h = 0; (rw [nam0 e]; first | rfl | (exfalso; omega)); (rw [nam1 e]; first | rfl | (exfalso; omega)), rfl⟩)
  · refine v_tsIn hX (c := 3) tq1 ⟨by omega, by omega⟩ (atL dAX8_head_0 1 rfl) (by decide) (by decide) rfl (tgt := 106) (by decide) ?_
    refine v_bipush hX (by decide +kernel) (atL dAX8_head_0 12 rfl) ?_
    exact v_iret hX (atL dAX8_head_0 13 rfl) (hret _ _ ⟨by rw [show i = 3 by omega]; by_cases e : h = 0; (rw [nam0 e]; first | rfl | (exfalso; omega)); (rw [nam1 e]; first | rfl | (exfalso; omega)), rfl⟩)
  · refine v_tsIn hX (c := 4) tq1 ⟨by omega, by omega⟩ (atL dAX8_head_0 1 rfl) (by decide) (by decide) rfl (tgt := 109) (by decide) ?_
    refine v_bipush hX (by decide +kernel) (atL dAX8_head_0 14 rfl) ?_
    exact v_iret hX (atL dAX8_head_0 15 rfl) (hret _ _ ⟨by rw [show i = 4 by omega]; by_cases e : h = 0; (rw [nam0 e]; first | rfl | (exfalso; omega)); (rw [nam1 e]; first | rfl | (exfalso; omega)), rfl⟩)
  · refine v_tsIn hX (c := 5) tq1 ⟨by omega, by omega⟩ (atL dAX8_head_0 1 rfl) (by decide) (by decide) rfl (tgt := 112) (by decide) ?_
    refine v_bipush hX (by decide +kernel) (atL dAX8_head_0 16 rfl) ?_
    exact v_iret hX (atL dAX8_head_0 17 rfl) (hret _ _ ⟨by rw [show i = 5 by omega]; by_cases e : h = 0; (rw [nam0 e]; first | rfl | (exfalso; omega)); (rw [nam1 e]; first | rfl | (exfalso; omega)), rfl⟩)
  · refine v_tsIn hX (c := 6) tq1 ⟨by omega, by omega⟩ (atL dAX8_head_0 1 rfl) (by decide) (by decide) rfl (tgt := 115) (by decide) ?_
    refine v_bipush hX (by decide +kernel) (atL dAX8_head_0 18 rfl) ?_
    exact v_iret hX (atL dAX8_head_0 19 rfl) (hret _ _ ⟨by rw [show i = 6 by omega]; by_cases e : h = 0; (rw [nam0 e]; first | rfl | (exfalso; omega)); (rw [nam1 e]; first | rfl | (exfalso; omega)), rfl⟩)
  · refine v_tsIn hX (c := 7) tq1 ⟨by omega, by omega⟩ (atL dAX8_head_0 1 rfl) (by decide) (by decide) rfl (tgt := 118) (by decide) ?_
    refine v_sipush hX (by decide +kernel) (atL dAX8_head_0 20 rfl) ?_
    exact v_iret hX (atL dAX8_head_0 21 rfl) (hret _ _ ⟨by rw [show i = 7 by omega]; by_cases e : h = 0; (rw [nam0 e]; first | rfl | (exfalso; omega)); (rw [nam1 e]; first | rfl | (exfalso; omega)), rfl⟩)
  · refine v_tsIn hX (c := 8) tq1 ⟨by omega, by omega⟩ (atL dAX8_head_0 1 rfl) (by decide) (by decide) rfl (tgt := 122) (by decide) ?_
    refine v_bipush hX (by decide +kernel) (atL dAX8_head_0 22 rfl) ?_
    exact v_iret hX (atL dAX8_head_0 23 rfl) (hret _ _ ⟨by rw [show i = 8 by omega]; by_cases e : h = 0; (rw [nam0 e]; first | rfl | (exfalso; omega)); (rw [nam1 e]; first | rfl | (exfalso; omega)), rfl⟩)
  · refine v_tsIn hX (c := 9) tq1 ⟨by omega, by omega⟩ (atL dAX8_head_0 1 rfl) (by decide) (by decide) rfl (tgt := 125) (by decide) ?_
    refine v_iconst hX (atL dAX8_head_0 24 rfl) ?_
    exact v_iret hX (atL dAX8_head_0 25 rfl) (hret _ _ ⟨by rw [show i = 9 by omega]; by_cases e : h = 0; (rw [nam0 e]; first | rfl | (exfalso; omega)); (rw [nam1 e]; first | rfl | (exfalso; omega)), rfl⟩)
  · refine v_tsIn hX (c := 10) tq1 ⟨by omega, by omega⟩ (atL dAX8_head_0 1 rfl) (by decide) (by decide) rfl (tgt := 127) (by decide) ?_
    refine v_bipush hX (by decide +kernel) (atL dAX8_head_0 26 rfl) ?_
    exact v_iret hX (atL dAX8_head_0 27 rfl) (hret _ _ ⟨by rw [show i = 10 by omega]; by_cases e : h = 0; (rw [nam0 e]; first | rfl | (exfalso; omega)); (rw [nam1 e]; first | rfl | (exfalso; omega)), rfl⟩)
  · refine v_tsIn hX (c := 11) tq1 ⟨by omega, by omega⟩ (atL dAX8_head_0 1 rfl) (by decide) (by decide) rfl (tgt := 130) (by decide) ?_
    refine v_iconst hX (atL dAX8_head_0 28 rfl) ?_
    exact v_iret hX (atL dAX8_head_0 29 rfl) (hret _ _ ⟨by rw [show i = 11 by omega]; by_cases e : h = 0; (rw [nam0 e]; first | rfl | (exfalso; omega)); (rw [nam1 e]; first | rfl | (exfalso; omega)), rfl⟩)
  · refine v_tsIn hX (c := 12) tq1 ⟨by omega, by omega⟩ (atL dAX8_head_0 1 rfl) (by decide) (by decide) rfl (tgt := 132) (by decide) ?_
    refine v_iconst hX (atL dAX8_head_0 30 rfl) ?_
    exact v_iret hX (atL dAX8_head_0 31 rfl) (hret _ _ ⟨by rw [show i = 12 by omega]; by_cases e : h = 0; (rw [nam0 e]; first | rfl | (exfalso; omega)); (rw [nam1 e]; first | rfl | (exfalso; omega)), rfl⟩)
  · refine v_tsIn hX (c := 13) tq1 ⟨by omega, by omega⟩ (atL dAX8_head_0 1 rfl) (by decide) (by decide) rfl (tgt := 134) (by decide) ?_
    refine v_iconst hX (atL dAX8_head_0 32 rfl) ?_
    exact v_iret hX (atL dAX8_head_0 33 rfl) (hret _ _ ⟨by rw [show i = 13 by omega]; by_cases e : h = 0; (rw [nam0 e]; first | rfl | (exfalso; omega)); (rw [nam1 e]; first | rfl | (exfalso; omega)), rfl⟩)
  · refine v_tsIn hX (c := 14) tq1 ⟨by omega, by omega⟩ (atL dAX8_head_0 1 rfl) (by decide) (by decide) rfl (tgt := 136) (by decide) ?_
    refine v_iload_n hX 0 rfl (atL dAX8_head_0 34 rfl) ?_
    refine v_if_ne hX hh (tgt := 144) (atL dAX8_head_0 35 rfl) (by decide) (fun h137 => ?_) (fun h137 => ?_)
    · refine v_iconst hX (atL dAX8_head_0 38 rfl) ?_
      exact v_iret hX (atL dAX8_head_0 39 rfl) (hret _ _ ⟨by rw [show i = 14 by omega]; by_cases e : h = 0; (rw [nam0 e]; first | rfl | (exfalso; omega)); (rw [nam1 e]; first | rfl | (exfalso; omega)), rfl⟩)
    · refine v_iconst hX (atL dAX8_head_0 36 rfl) ?_
      refine v_goto hX (tgt := 145) (atL dAX8_head_0 37 rfl) (by decide) ?_
      exact v_iret hX (atL dAX8_head_0 39 rfl) (hret _ _ ⟨by rw [show i = 14 by omega]; by_cases e : h = 0; (rw [nam0 e]; first | rfl | (exfalso; omega)); (rw [nam1 e]; first | rfl | (exfalso; omega)), rfl⟩)
  · refine v_tsIn hX (c := 15) tq1 ⟨by omega, by omega⟩ (atL dAX8_head_0 1 rfl) (by decide) (by decide) rfl (tgt := 146) (by decide) ?_
    refine v_iconst hX (atL dAX8_head_0 40 rfl) ?_
    exact v_iret hX (atL dAX8_head_0 41 rfl) (hret _ _ ⟨by rw [show i = 15 by omega]; by_cases e : h = 0; (rw [nam0 e]; first | rfl | (exfalso; omega)); (rw [nam1 e]; first | rfl | (exfalso; omega)), rfl⟩)
  · refine v_tsIn hX (c := 16) tq1 ⟨by omega, by omega⟩ (atL dAX8_head_0 1 rfl) (by decide) (by decide) rfl (tgt := 148) (by decide) ?_
    refine v_iconst hX (atL dAX8_head_0 42 rfl) ?_
    exact v_iret hX (atL dAX8_head_0 43 rfl) (hret _ _ ⟨by rw [show i = 16 by omega]; by_cases e : h = 0; (rw [nam0 e]; first | rfl | (exfalso; omega)); (rw [nam1 e]; first | rfl | (exfalso; omega)), rfl⟩)
  · refine v_tsIn hX (c := 17) tq1 ⟨by omega, by omega⟩ (atL dAX8_head_0 1 rfl) (by decide) (by decide) rfl (tgt := 150) (by decide) ?_
    refine v_iconst hX (atL dAX8_head_0 44 rfl) ?_
    exact v_iret hX (atL dAX8_head_0 45 rfl) (hret _ _ ⟨by rw [show i = 17 by omega]; by_cases e : h = 0; (rw [nam0 e]; first | rfl | (exfalso; omega)); (rw [nam1 e]; first | rfl | (exfalso; omega)), rfl⟩)
  · refine v_tsOut hX ⟨by omega, by omega⟩ tq1 (atL dAX8_head_0 1 rfl) (tgt := 152) (by decide) ?_
    refine v_iload_n hX 0 rfl (atL dAX8_head_0 46 rfl) ?_
    refine v_if_ne hX hh (tgt := 161) (atL dAX8_head_0 47 rfl) (by decide) (fun h153 => ?_) (fun h153 => ?_)
    · refine v_bipush hX (by decide +kernel) (atL dAX8_head_0 50 rfl) ?_
      exact v_iret hX (atL dAX8_head_0 51 rfl) (hret _ _ ⟨by rw [show i = 18 by omega]; by_cases e : h = 0; (rw [nam0 e]; first | rfl | (exfalso; omega)); (rw [nam1 e]; first | rfl | (exfalso; omega)), rfl⟩)
    · refine v_bipush hX (by decide +kernel) (atL dAX8_head_0 48 rfl) ?_
      refine v_goto hX (tgt := 163) (atL dAX8_head_0 49 rfl) (by decide) ?_
      exact v_iret hX (atL dAX8_head_0 51 rfl) (hret _ _ ⟨by rw [show i = 18 by omega]; by_cases e : h = 0; (rw [nam0 e]; first | rfl | (exfalso; omega)); (rw [nam1 e]; first | rfl | (exfalso; omega)), rfl⟩)
