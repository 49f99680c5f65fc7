set_option maxHeartbeats 1000000 in
set_option maxRecDepth 100000 in
theorem c_X8_load [Gh] (l : Launch) (w : Wl) (σ : St) (hk0 : w.2 13 0) (A : Ab) (hM : HM σ A) (p0 : Int) (hp0 : rI p0) (p1 : Int) (hp1 : rI p1) : Cn l yX8_load cX8_load 4 none 2 44 wN [.ref (w.1 13 0), .int (iI (p0)), .int (iI (p1))] w σ (fun a σ' => ∃ A', f_load A p0 p1 = (σ' 10 0 0, 0, A') ∧ HM σ' A' ∧ FC σ σ') := by
  refine Cn.of (own := RX8) (lv := [(0, .ref (w.1 13 0)), (1, .int (iI (p0))), (2, .int (iI (p1)))]) (by decide +kernel) rfl (Nat.le_of_ble_eq_true rfl) rfl (fun X hX hxl hR hcl hret => ?_)
  subst hxl
  have hQ : ∀ q, (14, q) ∈ mn σ 13 0 → w.2 14 q := fun q h => hcl 13 0 hk0 (14, q) h
  have hQ5 : ∀ q, (14, q) ∈ mn σ 13 0 → w.2 15 q := fun q h => hcl 14 q (hQ q h) (15, q) (by simp [mn, tp])
  have hQ16 : ∀ q, (16, q) ∈ mn σ 13 0 → w.2 16 q := fun q h => hcl 13 0 hk0 (16, q) h
  have hp0a := hp0.1
  have hp0b := hp0.2
  have hp1a := hp1.1
  have hp1b := hp1.2
  refine v_aload_n hX 0 rfl (atL dAX8_load_0 0 rfl) ?_
  refine v_iload_n hX 1 rfl (atL dAX8_load_0 1 rfl) ?_
  refine v_iload_n hX 1 rfl (atL dAX8_load_0 2 rfl) ?_
  refine v_iload_n hX 1 rfl (atL dAX8_load_0 3 rfl) ?_
  refine v_callV hX (As := [.int (iI (p0)), .int (iI (p0)), .int (iI (p0))]) (rest := []) (c_X8_are (xl X) w σ hk0 p0 hp0 p0 hp0 p0 hp0) lk_X8_240 hk0 (fun _ => rfl) rfl rfl rfl (by rw [hR]; exact ⟨Nat.le_of_ble_eq_true rfl, Nat.le_of_ble_eq_true rfl⟩) ⟨Nat.zero_le _, Nat.zero_le _⟩ rfl (Nat.le_of_ble_eq_true rfl) (atL dAX8_load_0 4 rfl) (fun r1 s1 g1 => ?_)
  obtain ⟨gs1, ht1, hG1, hA1, hD1⟩ := are_use g1 FG.rf hM.2.1 hM.2.2
  have gd1 : r1 = 0 ∨ r1 = 1 := by rcases gs1 with q | q <;> omega
  show V X _ w _ _ s1 [.int (iI (r1))]
  refine v_if_eq hX ⟨by omega, by omega⟩ (tgt := 41) (atL dAX8_load_0 5 rfl) (by decide) (fun h7 => ?_) (fun h7 => ?_)
  · exact v_vret hX (atL dAX8_load_0 21 rfl) (hret () _ ⟨A, by rw [show s1 10 0 0 = 1 by omega]; unfold f_load; rw [if_pos (by omega)], hM.same hG1 hA1 hD1, hG1.fc⟩)
  · obtain ⟨sp0, rfl⟩ : ∃ q : Nat, p0 = (q : Int) := ⟨p0.toNat, by omega⟩
    obtain ⟨lsp0, hlsp0⟩ : ∃ q, (A.1 sp0).length = q := ⟨_, rfl⟩
    have hqsp0 : lsp0 ≤ 256 := by rw [← hlsp0]; exact hM.1.len (by omega)
    have hbvsp0 : lb (rv (A.1 sp0)) 128 := rv_lb (hM.1.by (by omega)) (hM.1.len (by omega))
    refine v_aload_n hX 0 rfl (atL dAX8_load_0 6 rfl) ?_
    refine v_iload_n hX 2 rfl (atL dAX8_load_0 7 rfl) ?_
    have hlT0 : (A.1 24).length ≤ 260 := hM.1.2.1.2.1
    refine v_if_lt hX ⟨by omega, by omega⟩ (tgt := 30) (atL dAX8_load_0 8 rfl) (by decide) (fun h12 => ?_) (fun h12 => ?_)
    · refine v_iconst hX (atL dAX8_load_0 16 rfl) ?_
      refine v_goto hX (tgt := 35) (atL dAX8_load_0 17 rfl) (by decide) ?_
      refine v_callV hX (As := [.int (iI (1))]) (rest := []) (c_X8_bad (xl X) w s1 hk0 1 (by decide)) lk_X8_244 hk0 (fun _ => rfl) rfl rfl rfl (by rw [hR]; exact ⟨Nat.le_of_ble_eq_true rfl, Nat.le_of_ble_eq_true rfl⟩) ⟨Nat.zero_le _, Nat.zero_le _⟩ rfl (Nat.le_of_ble_eq_true rfl) (atL dAX8_load_0 19 rfl) (fun r2 s2 g2 => ?_)
      obtain ⟨gs2, ht2, hG2, hA2, hD2⟩ := bad_use g2 (by omega) hG1 hA1 hD1
      subst gs2
      show V X _ w _ _ s2 [.int (iI (1))]
      refine v_if_eq hX ⟨by omega, by omega⟩ (tgt := 42) (atL dAX8_load_0 20 rfl) (by decide) (fun h38 => absurd h38 (by omega)) (fun h38 => ?_)
      exact v_vret hX (atL dAX8_load_0 21 rfl) (hret () _ ⟨A, by rw [show s2 10 0 0 = 2 by omega]; unfold f_load; rw [if_neg (by omega), if_pos (by omega)], hM.same hG2 hA2 hD2, hG2.fc⟩)
    · refine v_iload_n hX 2 rfl (atL dAX8_load_0 9 rfl) ?_
      refine v_aload_n hX 0 rfl (atL dAX8_load_0 10 rfl) ?_
      refine gf_X8_234 hX (v := ((A.1 24).length : Int)) ((hM.1.fg hG1).2.1.1) hk0 (atL dAX8_load_0 11 rfl) ?_
      refine v_icmp_gt hX ⟨by omega, by omega⟩ ⟨by omega, by omega⟩ (tgt := 30) (atL dAX8_load_0 12 rfl) (by decide) (fun h20 => ?_) (fun h20 => ?_)
      · refine v_iconst hX (atL dAX8_load_0 16 rfl) ?_
        refine v_goto hX (tgt := 35) (atL dAX8_load_0 17 rfl) (by decide) ?_
        refine v_callV hX (As := [.int (iI (1))]) (rest := []) (c_X8_bad (xl X) w s1 hk0 1 (by decide)) lk_X8_244 hk0 (fun _ => rfl) rfl rfl rfl (by rw [hR]; exact ⟨Nat.le_of_ble_eq_true rfl, Nat.le_of_ble_eq_true rfl⟩) ⟨Nat.zero_le _, Nat.zero_le _⟩ rfl (Nat.le_of_ble_eq_true rfl) (atL dAX8_load_0 19 rfl) (fun r3 s3 g3 => ?_)
        obtain ⟨gs3, ht3, hG3, hA3, hD3⟩ := bad_use g3 (by omega) hG1 hA1 hD1
        subst gs3
        show V X _ w _ _ s3 [.int (iI (1))]
        refine v_if_eq hX ⟨by omega, by omega⟩ (tgt := 42) (atL dAX8_load_0 20 rfl) (by decide) (fun h38 => absurd h38 (by omega)) (fun h38 => ?_)
        exact v_vret hX (atL dAX8_load_0 21 rfl) (hret () _ ⟨A, by rw [show s3 10 0 0 = 2 by omega]; unfold f_load; rw [if_neg (by omega), if_pos (by omega)], hM.same hG3 hA3 hD3, hG3.fc⟩)
      · refine v_iload_n hX 2 rfl (atL dAX8_load_0 13 rfl) ?_
        refine v_sipush hX (by decide +kernel) (atL dAX8_load_0 14 rfl) ?_
        refine v_icmp_le hX ⟨by omega, by omega⟩ ⟨by omega, by omega⟩ (tgt := 34) (atL dAX8_load_0 15 rfl) (by decide) (fun h27 => ?_) (fun h27 => ?_)
        · refine v_iconst hX (atL dAX8_load_0 18 rfl) ?_
          refine v_callV hX (As := [.int (iI (0))]) (rest := []) (c_X8_bad (xl X) w s1 hk0 0 (by decide)) lk_X8_244 hk0 (fun _ => rfl) rfl rfl rfl (by rw [hR]; exact ⟨Nat.le_of_ble_eq_true rfl, Nat.le_of_ble_eq_true rfl⟩) ⟨Nat.zero_le _, Nat.zero_le _⟩ rfl (Nat.le_of_ble_eq_true rfl) (atL dAX8_load_0 19 rfl) (fun r4 s4 g4 => ?_)
          obtain ⟨gs4, ht4, hG4, hA4, hD4⟩ := bad_use g4 (by omega) hG1 hA1 hD1
          subst gs4
          show V X _ w _ _ s4 [.int (iI (0))]
          refine v_if_eq hX ⟨by omega, by omega⟩ (tgt := 42) (atL dAX8_load_0 20 rfl) (by decide) (fun h38 => ?_) (fun h38 => absurd h38 (by omega))
          obtain ⟨i1, rfl⟩ : ∃ q : Nat, p1 = (q : Int) := ⟨p1.toNat, by omega⟩
          refine v_iconst hX (atL dAX8_load_0 22 rfl) ?_
          refine v_istore_n hX (i := 3) rfl (lv' := [(3, .int (iI (0))), (0, .ref (w.1 13 0)), (1, .int (iI ((sp0 : Int)))), (2, .int (iI ((i1 : Int))))]) (Nat.le_of_ble_eq_true rfl) rfl (atL dAX8_load_0 23 rfl) ?_
          have hlT : (A.1 24).length ≤ 260 := hM.1.2.1.2.1
          have loop : ∀ (d j : Nat) (t : St), j + d = i1 → (∀ q, q < j → t 13 0 (256 * sp0 + q) = (((A.1 24).getD q 0 : Nat) : Int)) → (∀ q, (q < 256 * sp0 ∨ 256 * sp0 + j ≤ q) → t 13 0 q = s4 13 0 q) → Fr [(13, 0)] s4 t → V X (0, 0) w 44 [(3, .int (iI ((j : Int)))), (0, .ref (w.1 13 0)), (1, .int (iI ((sp0 : Int)))), (2, .int (iI ((i1 : Int))))] t [] := by
            intro d
            induction d with
            | zero =>
              intro j t hj h1 h2 hf
              obtain rfl : j = i1 := by omega
              have hln : ((A.1 24).take j).length = j := by rw [List.length_take]; omega
              have hSt : SM1 (su t 13 1 sp0 (j : Int)) sp0 ((A.1 24).take j) := by
                refine ⟨by rw [su_s, hln], by rw [hln]; omega, fun q hq => ?_⟩
                rw [hln] at hq
                rw [su_i (by decide), h1 q hq]
                simp [List.getD, List.getElem?_take, hq]
              have hPt : HP (su t 13 1 sp0 (j : Int)) (A.put sp0 ((A.1 24).take j)) := by
                refine (hM.1.fg hG4).put (by omega) hSt hM.1.2.1.2.2.1.take (fun q hq => by rw [hln] at hq; rw [su_i (by decide)]; exact h2 q hq) (fun q hq => by rw [su_j hq, hf 13 1 (by decide)]) ?_ ?_ ?_ ?_ ?_ ?_
                · rw [su_ri (by decide), hf 13 2 (by decide)]
                · rw [su_ri (by decide), hf 13 11 (by decide)]
                · rw [su_ri (by decide), hf 13 12 (by decide)]
                · rw [su_rc (by decide), hf 14 0 (by decide)]
                · rw [su_c (by decide), hf 10 0 (by decide)]
                · rw [su_c (by decide), hf 10 0 (by decide)]
              have hAt : AN (su t 13 1 sp0 (j : Int)) := (hA4.fp hf rfl).s1 (by decide)
              have hDt : DG (su t 13 1 sp0 (j : Int)) := (hD4.fr hf (by decide) (by decide) (by decide)).sa (by decide) (by decide)
              refine v_iload_n hX 0 rfl (atL dAX8_load_0 24 rfl) ?_
              refine v_iload_n hX 3 rfl (atL dAX8_load_0 25 rfl) ?_
              refine v_icmp_ge hX ⟨by omega, by omega⟩ ⟨by omega, by omega⟩ (tgt := 73) (atL dAX8_load_0 26 rfl) (by decide) (fun h46 => ?_) (fun h46 => absurd h46 (by omega))
              refine v_aload_n hX 1 rfl (atL dAX8_load_0 41 rfl) ?_
              refine gf_X8_71 hX hk0 (atL dAX8_load_0 42 rfl) ?_
              refine v_iload_n hX 2 rfl (atL dAX8_load_0 43 rfl) ?_
              refine v_iload_n hX 3 rfl (atL dAX8_load_0 44 rfl) ?_
              refine v_iast hX (c := 13) sp0 (hQ16 1 (by simp [mn, tp])) (by decide) (fun _ _ => rfl) rfl (show sp0 < 24 by omega) (by decide) (atL dAX8_load_0 45 rfl) ?_
              refine v_aload_n hX 1 rfl (atL dAX8_load_0 46 rfl) ?_
              refine v_iconst hX (atL dAX8_load_0 47 rfl) ?_
              refine pf_X8_234 hX hk0 (atL dAX8_load_0 48 rfl) ?_
              exact v_vret hX (atL dAX8_load_0 49 rfl) (hret () _ ⟨(A.put sp0 ((A.1 24).take j)).put 24 [], by rw [show su (su t 13 1 sp0 (j : Int)) 10 0 1 0 10 0 0 = 0 by rw [su_j (by decide), su_c (by decide), hf 10 0 (by decide)]; omega]; unfold f_load; simp only [Int.toNat_natCast]; rw [if_neg (by omega), if_neg (by omega)], HM.tap (s0 := su t 13 1 sp0 (j : Int)) hPt hAt hDt (by simp) BY.nil ⟨su_s, fun q hq => absurd hq (by simp)⟩ ⟨Fr.su (by simp), fun q hq => su_j hq⟩, hG4.fc.tr (fun c i hc => by rw [su_rc (by omega), su_rc (by omega)]; exact hf c i (by simp; omega))⟩)
            | succ d ih =>
              intro j t hj h1 h2 hf
              have htp : t 13 2 j = (((A.1 24).getD j 0 : Nat) : Int) := by rw [hf 13 2 (by decide)]; have := (hM.1.fg hG4).2.1.2.2.2 j (by omega); rw [Nat.zero_add] at this; exact this
              refine v_iload_n hX 0 rfl (atL dAX8_load_0 24 rfl) ?_
              refine v_iload_n hX 3 rfl (atL dAX8_load_0 25 rfl) ?_
              refine v_icmp_ge hX ⟨by omega, by omega⟩ ⟨by omega, by omega⟩ (tgt := 73) (atL dAX8_load_0 26 rfl) (by decide) (fun h46 => absurd h46 (by omega)) (fun h46 => ?_)
              refine v_aload_n hX 1 rfl (atL dAX8_load_0 27 rfl) ?_
              refine gf_X8_67 hX hk0 (atL dAX8_load_0 28 rfl) ?_
              refine v_sipush hX (by decide +kernel) (atL dAX8_load_0 29 rfl) ?_
              refine v_iload_n hX 2 rfl (atL dAX8_load_0 30 rfl) ?_
              refine v_imul hX (iI_mul _ _) (atL dAX8_load_0 31 rfl) ?_
              refine v_iload_n hX 0 rfl (atL dAX8_load_0 32 rfl) ?_
              refine v_iadd hX (iI_add _ _) (atL dAX8_load_0 33 rfl) ?_
              refine v_aload_n hX 1 rfl (atL dAX8_load_0 34 rfl) ?_
              refine gf_X8_74 hX hk0 (atL dAX8_load_0 35 rfl) ?_
              refine v_iload_n hX 0 rfl (atL dAX8_load_0 36 rfl) ?_
              refine v_iald hX (r := iI ((((A.1 24).getD j 0 : Nat) : Int))) j (hQ16 2 (by simp [mn, tp])) (fun _ => rfl) rfl (show j < 260 by omega) (by decide) (congrArg iI htp) (atL dAX8_load_0 37 rfl) ?_
              refine v_iast hX (c := 13) ((256 * sp0 + j)) (hQ16 0 (by simp [mn, tp])) (by decide) (fun _ _ => rfl) (by omega) (show 256 * sp0 + j < 6144 by omega) (by decide) (atL dAX8_load_0 38 rfl) ?_
              refine v_iinc hX (lv' := [(3, .int (iI (((j : Int)) + 1))), (0, .ref (w.1 13 0)), (1, .int (iI ((sp0 : Int)))), (2, .int (iI ((i1 : Int))))]) 0 rfl (iI_add _ _) (Nat.le_of_ble_eq_true rfl) rfl (atL dAX8_load_0 39 rfl) ?_
              refine v_goto hX (tgt := 44) (atL dAX8_load_0 40 rfl) (by decide) ?_
              refine v_sub (lv' := [(3, .int (iI (((j : Int)) + 1))), (0, .ref (w.1 13 0)), (1, .int (iI ((sp0 : Int)))), (2, .int (iI ((i1 : Int))))]) [0, 1, 2, 3] rfl ?_
              rw [show (j : Int) + 1 = ((j + 1 : Nat) : Int) by omega]
              refine ih (j + 1) _ (by omega) (fun q hq => ?_) (fun q hq => by rw [su_j (by omega)]; exact h2 q (by omega)) (hf.tr' (Fr.su (by simp)))
              by_cases e : q = j
              · rw [e, su_s]
              · rw [su_j (by omega)]; exact h1 q (by omega)
          refine v_sub (lv' := [(3, .int (iI (0))), (0, .ref (w.1 13 0)), (1, .int (iI ((sp0 : Int)))), (2, .int (iI ((i1 : Int))))]) [0, 1, 2, 3] rfl ?_
          exact loop i1 0 s4 (by omega) (fun q hq => absurd hq (by omega)) (fun q _ => rfl) Fr.rf
        · refine v_iconst hX (atL dAX8_load_0 16 rfl) ?_
          refine v_goto hX (tgt := 35) (atL dAX8_load_0 17 rfl) (by decide) ?_
          refine v_callV hX (As := [.int (iI (1))]) (rest := []) (c_X8_bad (xl X) w s1 hk0 1 (by decide)) lk_X8_244 hk0 (fun _ => rfl) rfl rfl rfl (by rw [hR]; exact ⟨Nat.le_of_ble_eq_true rfl, Nat.le_of_ble_eq_true rfl⟩) ⟨Nat.zero_le _, Nat.zero_le _⟩ rfl (Nat.le_of_ble_eq_true rfl) (atL dAX8_load_0 19 rfl) (fun r5 s5 g5 => ?_)
          obtain ⟨gs5, ht5, hG5, hA5, hD5⟩ := bad_use g5 (by omega) hG1 hA1 hD1
          subst gs5
          show V X _ w _ _ s5 [.int (iI (1))]
          refine v_if_eq hX ⟨by omega, by omega⟩ (tgt := 42) (atL dAX8_load_0 20 rfl) (by decide) (fun h38 => absurd h38 (by omega)) (fun h38 => ?_)
          exact v_vret hX (atL dAX8_load_0 21 rfl) (hret () _ ⟨A, by rw [show s5 10 0 0 = 2 by omega]; unfold f_load; rw [if_neg (by omega), if_pos (by omega)], hM.same hG5 hA5 hD5, hG5.fc⟩)

set_option maxHeartbeats 1000000 in
set_option maxRecDepth 100000 in
theorem c_X8_feed [Gh] (l : Launch) (w : Wl) (σ : St) (hk0 : w.2 13 0) (A : Ab) (hM : HM σ A) (p0 : Int) (hp0 : rI p0) (p1 : Int) (hp1 : rI p1) (p2 : Int) (hp2 : rI p2) (p3 : Int) (hp3 : rI p3) (p4 : Int) (hp4 : rI p4) : Cn l yX8_feed cX8_feed 9 (Option.some Jvm.ClassFile.FieldType.int) 0 0 wI [.ref (w.1 13 0), .int (iI (p0)), .int (iI (p1)), .int (iI (p2)), .int (iI (p3)), .int (iI (p4))] w σ (fun a σ' => ∃ A', f_feed A p0 p1 p2 p3 p4 = (σ' 10 0 0, a, A') ∧ HM σ' A' ∧ FC σ σ') := by
  refine Cn.of (own := RX8) (lv := [(0, .ref (w.1 13 0)), (1, .int (iI (p0))), (2, .int (iI (p1))), (3, .int (iI (p2))), (4, .int (iI (p3))), (5, .int (iI (p4)))]) (by decide +kernel) rfl (Nat.le_of_ble_eq_true rfl) rfl (fun X hX hxl hR hcl hret => ?_)
  subst hxl
  have hQ : ∀ q, (14, q) ∈ mn σ 13 0 → w.2 14 q := fun q h => hcl 13 0 hk0 (14, q) h
  have hQ5 : ∀ q, (14, q) ∈ mn σ 13 0 → w.2 15 q := fun q h => hcl 14 q (hQ q h) (15, q) (by simp [mn, tp])
  have hQ16 : ∀ q, (16, q) ∈ mn σ 13 0 → w.2 16 q := fun q h => hcl 13 0 hk0 (16, q) h
  have hp0a := hp0.1
  have hp0b := hp0.2
  have hp1a := hp1.1
  have hp1b := hp1.2
  have hp2a := hp2.1
  have hp2b := hp2.2
  have hp3a := hp3.1
  have hp3b := hp3.2
  have hp4a := hp4.1
  have hp4b := hp4.2
  refine v_aload_n hX 0 rfl (atL dAX8_feed_0 0 rfl) ?_
  refine v_iconst hX (atL dAX8_feed_0 1 rfl) ?_
  refine pf_X8_156 hX hk0 (atL dAX8_feed_0 2 rfl) ?_
  obtain ⟨lT, hlT⟩ : ∃ q, (A.1 24).length = q := ⟨_, rfl⟩
  have hT6 : lT ≤ 260 := by rw [← hlT]; exact hM.1.2.1.2.1
  refine v_aload_n hX 0 rfl (atL dAX8_feed_0 3 rfl) ?_
  refine gf_X8_234 hX (v := ((A.1 24).length : Int)) ((su_j (by decide)).trans (hM.1.2.1.1)) hk0 (atL dAX8_feed_0 4 rfl) ?_
  refine v_bipush hX (by decide +kernel) (atL dAX8_feed_0 5 rfl) ?_
  refine v_iadd hX (iI_add _ _) (atL dAX8_feed_0 6 rfl) ?_
  refine v_sipush hX (by decide +kernel) (atL dAX8_feed_0 7 rfl) ?_
  refine v_icmp_le hX ⟨by omega, by omega⟩ ⟨by omega, by omega⟩ (tgt := 20) (atL dAX8_feed_0 8 rfl) (by decide) (fun h15 => ?_) (fun h15 => ?_)
  · refine v_iconst hX (atL dAX8_feed_0 11 rfl) ?_
    refine v_istore hX (lv' := [(6, .int (iI (0))), (0, .ref (w.1 13 0)), (1, .int (iI (p0))), (2, .int (iI (p1))), (3, .int (iI (p2))), (4, .int (iI (p3))), (5, .int (iI (p4)))]) (Nat.le_of_ble_eq_true rfl) rfl (atL dAX8_feed_0 12 rfl) ?_
    obtain ⟨s0, hs0⟩ : ∃ q, q = su σ 10 0 0 0 := ⟨_, rfl⟩
    rw [← hs0]
    have hG : FG σ s0 := by rw [hs0]; exact FG.rf.s10 (by decide) (by decide)
    have hA : AN s0 := by rw [hs0]; exact hM.2.1.s1 (by decide)
    have hD : DG s0 := by rw [hs0]; exact hM.2.2.s10 (by decide) (by decide)
    have h00 : s0 10 0 0 = 0 := by rw [hs0]; exact su_s
    have hT0 : TP s0 (A.1 24) := ⟨(hM.1.fg hG).2.1.1, (hM.1.fg hG).2.1.2.2.2⟩
    have inner : ∀ (wi v : Int) (T : List Nat) (t : St), T.length + 4 ≤ 260 → TP t T → FT s0 t → (∀ t', TP t' (T ++ w4 v) → FT s0 t' → V X (0, 0) w 77 [(8, .int (iI ((-8)))), (7, .int (iI (v))), (6, .int (iI (wi))), (0, .ref (w.1 13 0)), (1, .int (iI (p0))), (2, .int (iI (p1))), (3, .int (iI (p2))), (4, .int (iI (p3))), (5, .int (iI (p4)))] t' []) → V X (0, 0) w 77 [(8, .int (iI (24))), (7, .int (iI (v))), (6, .int (iI (wi))), (0, .ref (w.1 13 0)), (1, .int (iI (p0))), (2, .int (iI (p1))), (3, .int (iI (p2))), (4, .int (iI (p3))), (5, .int (iI (p4)))] t [] := by
      intro wi v T t0 hl hT hF0 kk
      obtain ⟨b0, hb0⟩ : ∃ q, (v / 16777216 % 256).toNat = q := ⟨_, rfl⟩
      have hx0 := hT.1
      have hy0 : T.length = T.length + 0 := rfl
      refine v_iload hX 0 rfl (atL dAX8_feed_0 39 rfl) ?_
      refine v_if_lt hX ⟨by omega, by omega⟩ (tgt := 116) (atL dAX8_feed_0 40 rfl) (by decide) (fun h79 => absurd h79 (by omega)) (fun h79 => ?_)
      refine v_aload_n hX 3 rfl (atL dAX8_feed_0 41 rfl) ?_
      refine gf_X8_74 hX hk0 (atL dAX8_feed_0 42 rfl) ?_
      refine v_aload_n hX 3 rfl (atL dAX8_feed_0 43 rfl) ?_
      refine gf_X8_234 hX (v := (T.length : Int)) (hx0) hk0 (atL dAX8_feed_0 44 rfl) ?_
      refine v_iload hX 1 rfl (atL dAX8_feed_0 45 rfl) ?_
      refine v_iload hX 0 rfl (atL dAX8_feed_0 46 rfl) ?_
      refine v_iushr hX (r := iI (v % 4294967296 / 16777216)) (ush_by v 24 (by decide) (P := 16777216) (by decide)) (atL dAX8_feed_0 47 rfl) ?_
      refine v_sipush hX (by decide +kernel) (atL dAX8_feed_0 48 rfl) ?_
      refine v_iand hX (r := iI ((v % 4294967296 / 16777216) % 256)) (iI_mask _ 8 (by decide)) (atL dAX8_feed_0 49 rfl) ?_
      rw [show ((v % 4294967296 / 16777216) % 256) = (b0 : Int) from (by omega)]
      refine v_iast hX (c := 13) T.length (hQ16 2 (by simp [mn, tp])) (by decide) (fun _ _ => rfl) rfl (show _ < 260 by omega) (by decide) (atL dAX8_feed_0 50 rfl) ?_
      refine v_aload_n hX 3 rfl (atL dAX8_feed_0 51 rfl) ?_
      refine v_dup hX rfl (atL dAX8_feed_0 52 rfl) ?_
      refine gf_X8_234 hX (v := (T.length : Int)) ((su_c (by decide)).trans (hx0)) hk0 (atL dAX8_feed_0 53 rfl) ?_
      refine v_iconst hX (atL dAX8_feed_0 54 rfl) ?_
      refine v_iadd hX (iI_add _ _) (atL dAX8_feed_0 55 rfl) ?_
      refine pf_X8_234 hX hk0 (atL dAX8_feed_0 56 rfl) ?_
      refine v_iinc hX (lv' := [(8, .int (iI (24 + (-8)))), (7, .int (iI (v))), (6, .int (iI (wi))), (0, .ref (w.1 13 0)), (1, .int (iI (p0))), (2, .int (iI (p1))), (3, .int (iI (p2))), (4, .int (iI (p3))), (5, .int (iI (p4)))]) 0 rfl (iI_add _ _) (Nat.le_of_ble_eq_true rfl) rfl (atL dAX8_feed_0 57 rfl) ?_
      refine v_goto hX (tgt := 77) (atL dAX8_feed_0 58 rfl) (by decide) ?_
      obtain ⟨t1, ht1⟩ : ∃ q, q = (su (su t0 13 2 T.length ((b0 : Int))) 10 0 1 (((T.length : Int)) + 1)) := ⟨_, rfl⟩
      rw [← ht1, show (24 : Int) + (-8) = 16 from rfl]
      have hT1 : TP t1 (T ++ [b0]) := by rw [ht1]; exact hT.push
      have hF1 : FT s0 t1 := by rw [ht1]; exact hF0.push
      obtain ⟨b1, hb1⟩ : ∃ q, (v / 65536 % 256).toNat = q := ⟨_, rfl⟩
      have hx1 := hT1.1
      have hy1 : (T ++ [b0]).length = T.length + 1 := by simp
      refine v_iload hX 0 rfl (atL dAX8_feed_0 39 rfl) ?_
      refine v_if_lt hX ⟨by omega, by omega⟩ (tgt := 116) (atL dAX8_feed_0 40 rfl) (by decide) (fun h79 => absurd h79 (by omega)) (fun h79 => ?_)
      refine v_aload_n hX 3 rfl (atL dAX8_feed_0 41 rfl) ?_
      refine gf_X8_74 hX hk0 (atL dAX8_feed_0 42 rfl) ?_
      refine v_aload_n hX 3 rfl (atL dAX8_feed_0 43 rfl) ?_
      refine gf_X8_234 hX (v := ((T ++ [b0]).length : Int)) (hx1) hk0 (atL dAX8_feed_0 44 rfl) ?_
      refine v_iload hX 1 rfl (atL dAX8_feed_0 45 rfl) ?_
      refine v_iload hX 0 rfl (atL dAX8_feed_0 46 rfl) ?_
      refine v_iushr hX (r := iI (v % 4294967296 / 65536)) (ush_by v 16 (by decide) (P := 65536) (by decide)) (atL dAX8_feed_0 47 rfl) ?_
      refine v_sipush hX (by decide +kernel) (atL dAX8_feed_0 48 rfl) ?_
      refine v_iand hX (r := iI ((v % 4294967296 / 65536) % 256)) (iI_mask _ 8 (by decide)) (atL dAX8_feed_0 49 rfl) ?_
      rw [show ((v % 4294967296 / 65536) % 256) = (b1 : Int) from (by omega)]
      refine v_iast hX (c := 13) ((T ++ [b0]).length) (hQ16 2 (by simp [mn, tp])) (by decide) (fun _ _ => rfl) rfl (show _ < 260 by omega) (by decide) (atL dAX8_feed_0 50 rfl) ?_
      refine v_aload_n hX 3 rfl (atL dAX8_feed_0 51 rfl) ?_
      refine v_dup hX rfl (atL dAX8_feed_0 52 rfl) ?_
      refine gf_X8_234 hX (v := ((T ++ [b0]).length : Int)) ((su_c (by decide)).trans (hx1)) hk0 (atL dAX8_feed_0 53 rfl) ?_
      refine v_iconst hX (atL dAX8_feed_0 54 rfl) ?_
      refine v_iadd hX (iI_add _ _) (atL dAX8_feed_0 55 rfl) ?_
      refine pf_X8_234 hX hk0 (atL dAX8_feed_0 56 rfl) ?_
      refine v_iinc hX (lv' := [(8, .int (iI (16 + (-8)))), (7, .int (iI (v))), (6, .int (iI (wi))), (0, .ref (w.1 13 0)), (1, .int (iI (p0))), (2, .int (iI (p1))), (3, .int (iI (p2))), (4, .int (iI (p3))), (5, .int (iI (p4)))]) 0 rfl (iI_add _ _) (Nat.le_of_ble_eq_true rfl) rfl (atL dAX8_feed_0 57 rfl) ?_
      refine v_goto hX (tgt := 77) (atL dAX8_feed_0 58 rfl) (by decide) ?_
      obtain ⟨t2, ht2⟩ : ∃ q, q = (su (su t1 13 2 ((T ++ [b0]).length) ((b1 : Int))) 10 0 1 ((((T ++ [b0]).length : Int)) + 1)) := ⟨_, rfl⟩
      rw [← ht2, show (16 : Int) + (-8) = 8 from rfl]
      have hT2 : TP t2 ((T ++ [b0]) ++ [b1]) := by rw [ht2]; exact hT1.push
      have hF2 : FT s0 t2 := by rw [ht2]; exact hF1.push
      obtain ⟨b2, hb2⟩ : ∃ q, (v / 256 % 256).toNat = q := ⟨_, rfl⟩
      have hx2 := hT2.1
      have hy2 : ((T ++ [b0]) ++ [b1]).length = T.length + 2 := by simp
      refine v_iload hX 0 rfl (atL dAX8_feed_0 39 rfl) ?_
      refine v_if_lt hX ⟨by omega, by omega⟩ (tgt := 116) (atL dAX8_feed_0 40 rfl) (by decide) (fun h79 => absurd h79 (by omega)) (fun h79 => ?_)
      refine v_aload_n hX 3 rfl (atL dAX8_feed_0 41 rfl) ?_
      refine gf_X8_74 hX hk0 (atL dAX8_feed_0 42 rfl) ?_
      refine v_aload_n hX 3 rfl (atL dAX8_feed_0 43 rfl) ?_
      refine gf_X8_234 hX (v := (((T ++ [b0]) ++ [b1]).length : Int)) (hx2) hk0 (atL dAX8_feed_0 44 rfl) ?_
      refine v_iload hX 1 rfl (atL dAX8_feed_0 45 rfl) ?_
      refine v_iload hX 0 rfl (atL dAX8_feed_0 46 rfl) ?_
      refine v_iushr hX (r := iI (v % 4294967296 / 256)) (ush_by v 8 (by decide) (P := 256) (by decide)) (atL dAX8_feed_0 47 rfl) ?_
      refine v_sipush hX (by decide +kernel) (atL dAX8_feed_0 48 rfl) ?_
      refine v_iand hX (r := iI ((v % 4294967296 / 256) % 256)) (iI_mask _ 8 (by decide)) (atL dAX8_feed_0 49 rfl) ?_
      rw [show ((v % 4294967296 / 256) % 256) = (b2 : Int) from (by omega)]
      refine v_iast hX (c := 13) (((T ++ [b0]) ++ [b1]).length) (hQ16 2 (by simp [mn, tp])) (by decide) (fun _ _ => rfl) rfl (show _ < 260 by omega) (by decide) (atL dAX8_feed_0 50 rfl) ?_
      refine v_aload_n hX 3 rfl (atL dAX8_feed_0 51 rfl) ?_
      refine v_dup hX rfl (atL dAX8_feed_0 52 rfl) ?_
      refine gf_X8_234 hX (v := (((T ++ [b0]) ++ [b1]).length : Int)) ((su_c (by decide)).trans (hx2)) hk0 (atL dAX8_feed_0 53 rfl) ?_
      refine v_iconst hX (atL dAX8_feed_0 54 rfl) ?_
      refine v_iadd hX (iI_add _ _) (atL dAX8_feed_0 55 rfl) ?_
      refine pf_X8_234 hX hk0 (atL dAX8_feed_0 56 rfl) ?_
      refine v_iinc hX (lv' := [(8, .int (iI (8 + (-8)))), (7, .int (iI (v))), (6, .int (iI (wi))), (0, .ref (w.1 13 0)), (1, .int (iI (p0))), (2, .int (iI (p1))), (3, .int (iI (p2))), (4, .int (iI (p3))), (5, .int (iI (p4)))]) 0 rfl (iI_add _ _) (Nat.le_of_ble_eq_true rfl) rfl (atL dAX8_feed_0 57 rfl) ?_
      refine v_goto hX (tgt := 77) (atL dAX8_feed_0 58 rfl) (by decide) ?_
      obtain ⟨t3, ht3⟩ : ∃ q, q = (su (su t2 13 2 (((T ++ [b0]) ++ [b1]).length) ((b2 : Int))) 10 0 1 (((((T ++ [b0]) ++ [b1]).length : Int)) + 1)) := ⟨_, rfl⟩
      rw [← ht3, show (8 : Int) + (-8) = 0 from rfl]
      have hT3 : TP t3 (((T ++ [b0]) ++ [b1]) ++ [b2]) := by rw [ht3]; exact hT2.push
      have hF3 : FT s0 t3 := by rw [ht3]; exact hF2.push
      obtain ⟨b3, hb3⟩ : ∃ q, (v % 256).toNat = q := ⟨_, rfl⟩
      have hx3 := hT3.1
      have hy3 : (((T ++ [b0]) ++ [b1]) ++ [b2]).length = T.length + 3 := by simp
      refine v_iload hX 0 rfl (atL dAX8_feed_0 39 rfl) ?_
      refine v_if_lt hX ⟨by omega, by omega⟩ (tgt := 116) (atL dAX8_feed_0 40 rfl) (by decide) (fun h79 => absurd h79 (by omega)) (fun h79 => ?_)
      refine v_aload_n hX 3 rfl (atL dAX8_feed_0 41 rfl) ?_
      refine gf_X8_74 hX hk0 (atL dAX8_feed_0 42 rfl) ?_
      refine v_aload_n hX 3 rfl (atL dAX8_feed_0 43 rfl) ?_
      refine gf_X8_234 hX (v := ((((T ++ [b0]) ++ [b1]) ++ [b2]).length : Int)) (hx3) hk0 (atL dAX8_feed_0 44 rfl) ?_
      refine v_iload hX 1 rfl (atL dAX8_feed_0 45 rfl) ?_
      refine v_iload hX 0 rfl (atL dAX8_feed_0 46 rfl) ?_
      refine v_iushr hX (r := iI (v % 4294967296 / 1)) (ush_by v 0 (by decide) (P := 1) (by decide)) (atL dAX8_feed_0 47 rfl) ?_
      refine v_sipush hX (by decide +kernel) (atL dAX8_feed_0 48 rfl) ?_
      refine v_iand hX (r := iI ((v % 4294967296 / 1) % 256)) (iI_mask _ 8 (by decide)) (atL dAX8_feed_0 49 rfl) ?_
      rw [show ((v % 4294967296 / 1) % 256) = (b3 : Int) from (by omega)]
      refine v_iast hX (c := 13) ((((T ++ [b0]) ++ [b1]) ++ [b2]).length) (hQ16 2 (by simp [mn, tp])) (by decide) (fun _ _ => rfl) rfl (show _ < 260 by omega) (by decide) (atL dAX8_feed_0 50 rfl) ?_
      refine v_aload_n hX 3 rfl (atL dAX8_feed_0 51 rfl) ?_
      refine v_dup hX rfl (atL dAX8_feed_0 52 rfl) ?_
      refine gf_X8_234 hX (v := ((((T ++ [b0]) ++ [b1]) ++ [b2]).length : Int)) ((su_c (by decide)).trans (hx3)) hk0 (atL dAX8_feed_0 53 rfl) ?_
      refine v_iconst hX (atL dAX8_feed_0 54 rfl) ?_
      refine v_iadd hX (iI_add _ _) (atL dAX8_feed_0 55 rfl) ?_
      refine pf_X8_234 hX hk0 (atL dAX8_feed_0 56 rfl) ?_
      refine v_iinc hX (lv' := [(8, .int (iI (0 + (-8)))), (7, .int (iI (v))), (6, .int (iI (wi))), (0, .ref (w.1 13 0)), (1, .int (iI (p0))), (2, .int (iI (p1))), (3, .int (iI (p2))), (4, .int (iI (p3))), (5, .int (iI (p4)))]) 0 rfl (iI_add _ _) (Nat.le_of_ble_eq_true rfl) rfl (atL dAX8_feed_0 57 rfl) ?_
      refine v_goto hX (tgt := 77) (atL dAX8_feed_0 58 rfl) (by decide) ?_
      obtain ⟨t4, ht4⟩ : ∃ q, q = (su (su t3 13 2 ((((T ++ [b0]) ++ [b1]) ++ [b2]).length) ((b3 : Int))) 10 0 1 ((((((T ++ [b0]) ++ [b1]) ++ [b2]).length : Int)) + 1)) := ⟨_, rfl⟩
      rw [← ht4, show (0 : Int) + (-8) = -8 from rfl]
      have hT4 : TP t4 ((((T ++ [b0]) ++ [b1]) ++ [b2]) ++ [b3]) := by rw [ht4]; exact hT3.push
      have hF4 : FT s0 t4 := by rw [ht4]; exact hF3.push
      refine kk t4 ?_ hF4
      have e : T ++ w4 v = T ++ [b0] ++ [b1] ++ [b2] ++ [b3] := by rw [← hb0, ← hb1, ← hb2, ← hb3]; simp [w4]
      rw [e]; exact hT4
    refine v_sub (lv' := [(6, .int (iI (0))), (0, .ref (w.1 13 0)), (1, .int (iI (p0))), (2, .int (iI (p1))), (3, .int (iI (p2))), (4, .int (iI (p3))), (5, .int (iI (p4)))]) [0, 1, 2, 3, 4, 5, 6] rfl ?_
    refine v_iload hX 0 rfl (atL dAX8_feed_0 13 rfl) ?_
    refine v_iconst hX (atL dAX8_feed_0 14 rfl) ?_
    refine v_icmp_ge hX ⟨by omega, by omega⟩ ⟨by omega, by omega⟩ (tgt := 122) (atL dAX8_feed_0 15 rfl) (by decide) (fun h26 => absurd h26 (by omega)) (fun h26 => ?_)
    refine v_iload hX 0 rfl (atL dAX8_feed_0 16 rfl) ?_
    refine v_if_ne hX ⟨by omega, by omega⟩ (tgt := 38) (atL dAX8_feed_0 17 rfl) (by decide) (fun h31 => absurd h31 (by omega)) (fun h31 => ?_)
    refine v_iload_n hX 2 rfl (atL dAX8_feed_0 18 rfl) ?_
    refine v_goto hX (tgt := 71) (atL dAX8_feed_0 19 rfl) (by decide) ?_
    refine v_istore hX (lv' := [(7, .int (iI (p0))), (6, .int (iI (0))), (0, .ref (w.1 13 0)), (1, .int (iI (p0))), (2, .int (iI (p1))), (3, .int (iI (p2))), (4, .int (iI (p3))), (5, .int (iI (p4)))]) (Nat.le_of_ble_eq_true rfl) rfl (atL dAX8_feed_0 36 rfl) ?_
    refine v_bipush hX (by decide +kernel) (atL dAX8_feed_0 37 rfl) ?_
    refine v_istore hX (lv' := [(8, .int (iI (24))), (7, .int (iI (p0))), (6, .int (iI (0))), (0, .ref (w.1 13 0)), (1, .int (iI (p0))), (2, .int (iI (p1))), (3, .int (iI (p2))), (4, .int (iI (p3))), (5, .int (iI (p4)))]) (Nat.le_of_ble_eq_true rfl) rfl (atL dAX8_feed_0 38 rfl) ?_
    refine v_sub (lv' := [(8, .int (iI (24))), (7, .int (iI (p0))), (6, .int (iI (0))), (0, .ref (w.1 13 0)), (1, .int (iI (p0))), (2, .int (iI (p1))), (3, .int (iI (p2))), (4, .int (iI (p3))), (5, .int (iI (p4)))]) [0, 1, 2, 3, 4, 5, 6, 7, 8] rfl ?_
    refine inner _ _ (A.1 24) s0 (by omega) hT0 FT.rf (fun u1 hTu1 hFu1 => ?_)
    refine v_iload hX 0 rfl (atL dAX8_feed_0 39 rfl) ?_
    refine v_if_lt hX ⟨by omega, by omega⟩ (tgt := 116) (atL dAX8_feed_0 40 rfl) (by decide) (fun h79 => ?_) (fun h79 => absurd h79 (by omega))
    refine v_iinc hX (lv' := [(6, .int (iI (0 + 1))), (8, .int (iI ((-8)))), (7, .int (iI (p0))), (0, .ref (w.1 13 0)), (1, .int (iI (p0))), (2, .int (iI (p1))), (3, .int (iI (p2))), (4, .int (iI (p3))), (5, .int (iI (p4)))]) 2 rfl (iI_add _ _) (Nat.le_of_ble_eq_true rfl) rfl (atL dAX8_feed_0 59 rfl) ?_
    refine v_goto hX (tgt := 23) (atL dAX8_feed_1 0 rfl) (by decide) ?_
    refine v_sub (lv' := [(6, .int (iI (0 + 1))), (0, .ref (w.1 13 0)), (1, .int (iI (p0))), (2, .int (iI (p1))), (3, .int (iI (p2))), (4, .int (iI (p3))), (5, .int (iI (p4)))]) [0, 3, 4, 5, 6, 7, 8] rfl ?_
    rw [show (0 : Int) + 1 = 1 from rfl]
    refine v_iload hX 0 rfl (atL dAX8_feed_0 13 rfl) ?_
    refine v_iconst hX (atL dAX8_feed_0 14 rfl) ?_
    refine v_icmp_ge hX ⟨by omega, by omega⟩ ⟨by omega, by omega⟩ (tgt := 122) (atL dAX8_feed_0 15 rfl) (by decide) (fun h26 => absurd h26 (by omega)) (fun h26 => ?_)
    refine v_iload hX 0 rfl (atL dAX8_feed_0 16 rfl) ?_
    refine v_if_ne hX ⟨by omega, by omega⟩ (tgt := 38) (atL dAX8_feed_0 17 rfl) (by decide) (fun h31 => ?_) (fun h31 => absurd h31 (by omega))
    refine v_iload hX 0 rfl (atL dAX8_feed_0 20 rfl) ?_
    refine v_iconst hX (atL dAX8_feed_0 21 rfl) ?_
    refine v_icmp_ne hX ⟨by omega, by omega⟩ ⟨by omega, by omega⟩ (tgt := 48) (atL dAX8_feed_0 22 rfl) (by decide) (fun h41 => absurd h41 (by omega)) (fun h41 => ?_)
    refine v_iload_n hX 3 rfl (atL dAX8_feed_0 23 rfl) ?_
    refine v_goto hX (tgt := 71) (atL dAX8_feed_0 24 rfl) (by decide) ?_
    refine v_istore hX (lv' := [(7, .int (iI (p1))), (6, .int (iI (1))), (0, .ref (w.1 13 0)), (1, .int (iI (p0))), (2, .int (iI (p1))), (3, .int (iI (p2))), (4, .int (iI (p3))), (5, .int (iI (p4)))]) (Nat.le_of_ble_eq_true rfl) rfl (atL dAX8_feed_0 36 rfl) ?_
    refine v_bipush hX (by decide +kernel) (atL dAX8_feed_0 37 rfl) ?_
    refine v_istore hX (lv' := [(8, .int (iI (24))), (7, .int (iI (p1))), (6, .int (iI (1))), (0, .ref (w.1 13 0)), (1, .int (iI (p0))), (2, .int (iI (p1))), (3, .int (iI (p2))), (4, .int (iI (p3))), (5, .int (iI (p4)))]) (Nat.le_of_ble_eq_true rfl) rfl (atL dAX8_feed_0 38 rfl) ?_
    refine v_sub (lv' := [(8, .int (iI (24))), (7, .int (iI (p1))), (6, .int (iI (1))), (0, .ref (w.1 13 0)), (1, .int (iI (p0))), (2, .int (iI (p1))), (3, .int (iI (p2))), (4, .int (iI (p3))), (5, .int (iI (p4)))]) [0, 1, 2, 3, 4, 5, 6, 7, 8] rfl ?_
    refine inner _ _ (A.1 24 ++ w4 p0) u1 (by simp only [List.length_append, List.length_cons, List.length_nil, w4]; omega) hTu1 hFu1 (fun u2 hTu2 hFu2 => ?_)
    refine v_iload hX 0 rfl (atL dAX8_feed_0 39 rfl) ?_
    refine v_if_lt hX ⟨by omega, by omega⟩ (tgt := 116) (atL dAX8_feed_0 40 rfl) (by decide) (fun h79 => ?_) (fun h79 => absurd h79 (by omega))
    refine v_iinc hX (lv' := [(6, .int (iI (1 + 1))), (8, .int (iI ((-8)))), (7, .int (iI (p1))), (0, .ref (w.1 13 0)), (1, .int (iI (p0))), (2, .int (iI (p1))), (3, .int (iI (p2))), (4, .int (iI (p3))), (5, .int (iI (p4)))]) 2 rfl (iI_add _ _) (Nat.le_of_ble_eq_true rfl) rfl (atL dAX8_feed_0 59 rfl) ?_
    refine v_goto hX (tgt := 23) (atL dAX8_feed_1 0 rfl) (by decide) ?_
    refine v_sub (lv' := [(6, .int (iI (1 + 1))), (0, .ref (w.1 13 0)), (1, .int (iI (p0))), (2, .int (iI (p1))), (3, .int (iI (p2))), (4, .int (iI (p3))), (5, .int (iI (p4)))]) [0, 3, 4, 5, 6, 7, 8] rfl ?_
    rw [show (1 : Int) + 1 = 2 from rfl]
    refine v_iload hX 0 rfl (atL dAX8_feed_0 13 rfl) ?_
    refine v_iconst hX (atL dAX8_feed_0 14 rfl) ?_
    refine v_icmp_ge hX ⟨by omega, by omega⟩ ⟨by omega, by omega⟩ (tgt := 122) (atL dAX8_feed_0 15 rfl) (by decide) (fun h26 => absurd h26 (by omega)) (fun h26 => ?_)
    refine v_iload hX 0 rfl (atL dAX8_feed_0 16 rfl) ?_
    refine v_if_ne hX ⟨by omega, by omega⟩ (tgt := 38) (atL dAX8_feed_0 17 rfl) (by decide) (fun h31 => ?_) (fun h31 => absurd h31 (by omega))
    refine v_iload hX 0 rfl (atL dAX8_feed_0 20 rfl) ?_
    refine v_iconst hX (atL dAX8_feed_0 21 rfl) ?_
    refine v_icmp_ne hX ⟨by omega, by omega⟩ ⟨by omega, by omega⟩ (tgt := 48) (atL dAX8_feed_0 22 rfl) (by decide) (fun h41 => ?_) (fun h41 => absurd h41 (by omega))
    refine v_iload hX 0 rfl (atL dAX8_feed_0 25 rfl) ?_
    refine v_iconst hX (atL dAX8_feed_0 26 rfl) ?_
    refine v_icmp_ne hX ⟨by omega, by omega⟩ ⟨by omega, by omega⟩ (tgt := 58) (atL dAX8_feed_0 27 rfl) (by decide) (fun h51 => absurd h51 (by omega)) (fun h51 => ?_)
    refine v_iload_n hX 4 rfl (atL dAX8_feed_0 28 rfl) ?_
    refine v_goto hX (tgt := 71) (atL dAX8_feed_0 29 rfl) (by decide) ?_
    refine v_istore hX (lv' := [(7, .int (iI (p2))), (6, .int (iI (2))), (0, .ref (w.1 13 0)), (1, .int (iI (p0))), (2, .int (iI (p1))), (3, .int (iI (p2))), (4, .int (iI (p3))), (5, .int (iI (p4)))]) (Nat.le_of_ble_eq_true rfl) rfl (atL dAX8_feed_0 36 rfl) ?_
    refine v_bipush hX (by decide +kernel) (atL dAX8_feed_0 37 rfl) ?_
    refine v_istore hX (lv' := [(8, .int (iI (24))), (7, .int (iI (p2))), (6, .int (iI (2))), (0, .ref (w.1 13 0)), (1, .int (iI (p0))), (2, .int (iI (p1))), (3, .int (iI (p2))), (4, .int (iI (p3))), (5, .int (iI (p4)))]) (Nat.le_of_ble_eq_true rfl) rfl (atL dAX8_feed_0 38 rfl) ?_
    refine v_sub (lv' := [(8, .int (iI (24))), (7, .int (iI (p2))), (6, .int (iI (2))), (0, .ref (w.1 13 0)), (1, .int (iI (p0))), (2, .int (iI (p1))), (3, .int (iI (p2))), (4, .int (iI (p3))), (5, .int (iI (p4)))]) [0, 1, 2, 3, 4, 5, 6, 7, 8] rfl ?_
    refine inner _ _ (A.1 24 ++ w4 p0 ++ w4 p1) u2 (by simp only [List.length_append, List.length_cons, List.length_nil, w4]; omega) hTu2 hFu2 (fun u3 hTu3 hFu3 => ?_)
    refine v_iload hX 0 rfl (atL dAX8_feed_0 39 rfl) ?_
    refine v_if_lt hX ⟨by omega, by omega⟩ (tgt := 116) (atL dAX8_feed_0 40 rfl) (by decide) (fun h79 => ?_) (fun h79 => absurd h79 (by omega))
    refine v_iinc hX (lv' := [(6, .int (iI (2 + 1))), (8, .int (iI ((-8)))), (7, .int (iI (p2))), (0, .ref (w.1 13 0)), (1, .int (iI (p0))), (2, .int (iI (p1))), (3, .int (iI (p2))), (4, .int (iI (p3))), (5, .int (iI (p4)))]) 2 rfl (iI_add _ _) (Nat.le_of_ble_eq_true rfl) rfl (atL dAX8_feed_0 59 rfl) ?_
    refine v_goto hX (tgt := 23) (atL dAX8_feed_1 0 rfl) (by decide) ?_
    refine v_sub (lv' := [(6, .int (iI (2 + 1))), (0, .ref (w.1 13 0)), (1, .int (iI (p0))), (2, .int (iI (p1))), (3, .int (iI (p2))), (4, .int (iI (p3))), (5, .int (iI (p4)))]) [0, 3, 4, 5, 6, 7, 8] rfl ?_
    rw [show (2 : Int) + 1 = 3 from rfl]
    refine v_iload hX 0 rfl (atL dAX8_feed_0 13 rfl) ?_
    refine v_iconst hX (atL dAX8_feed_0 14 rfl) ?_
    refine v_icmp_ge hX ⟨by omega, by omega⟩ ⟨by omega, by omega⟩ (tgt := 122) (atL dAX8_feed_0 15 rfl) (by decide) (fun h26 => absurd h26 (by omega)) (fun h26 => ?_)
    refine v_iload hX 0 rfl (atL dAX8_feed_0 16 rfl) ?_
    refine v_if_ne hX ⟨by omega, by omega⟩ (tgt := 38) (atL dAX8_feed_0 17 rfl) (by decide) (fun h31 => ?_) (fun h31 => absurd h31 (by omega))
    refine v_iload hX 0 rfl (atL dAX8_feed_0 20 rfl) ?_
    refine v_iconst hX (atL dAX8_feed_0 21 rfl) ?_
    refine v_icmp_ne hX ⟨by omega, by omega⟩ ⟨by omega, by omega⟩ (tgt := 48) (atL dAX8_feed_0 22 rfl) (by decide) (fun h41 => ?_) (fun h41 => absurd h41 (by omega))
    refine v_iload hX 0 rfl (atL dAX8_feed_0 25 rfl) ?_
    refine v_iconst hX (atL dAX8_feed_0 26 rfl) ?_
    refine v_icmp_ne hX ⟨by omega, by omega⟩ ⟨by omega, by omega⟩ (tgt := 58) (atL dAX8_feed_0 27 rfl) (by decide) (fun h51 => ?_) (fun h51 => absurd h51 (by omega))
    refine v_iload hX 0 rfl (atL dAX8_feed_0 30 rfl) ?_
    refine v_iconst hX (atL dAX8_feed_0 31 rfl) ?_
    refine v_icmp_ne hX ⟨by omega, by omega⟩ ⟨by omega, by omega⟩ (tgt := 69) (atL dAX8_feed_0 32 rfl) (by decide) (fun h61 => absurd h61 (by omega)) (fun h61 => ?_)
    refine v_iload hX 5 rfl (atL dAX8_feed_0 33 rfl) ?_
    refine v_goto hX (tgt := 71) (atL dAX8_feed_0 34 rfl) (by decide) ?_
    refine v_istore hX (lv' := [(7, .int (iI (p3))), (6, .int (iI (3))), (0, .ref (w.1 13 0)), (1, .int (iI (p0))), (2, .int (iI (p1))), (3, .int (iI (p2))), (4, .int (iI (p3))), (5, .int (iI (p4)))]) (Nat.le_of_ble_eq_true rfl) rfl (atL dAX8_feed_0 36 rfl) ?_
    refine v_bipush hX (by decide +kernel) (atL dAX8_feed_0 37 rfl) ?_
    refine v_istore hX (lv' := [(8, .int (iI (24))), (7, .int (iI (p3))), (6, .int (iI (3))), (0, .ref (w.1 13 0)), (1, .int (iI (p0))), (2, .int (iI (p1))), (3, .int (iI (p2))), (4, .int (iI (p3))), (5, .int (iI (p4)))]) (Nat.le_of_ble_eq_true rfl) rfl (atL dAX8_feed_0 38 rfl) ?_
    refine v_sub (lv' := [(8, .int (iI (24))), (7, .int (iI (p3))), (6, .int (iI (3))), (0, .ref (w.1 13 0)), (1, .int (iI (p0))), (2, .int (iI (p1))), (3, .int (iI (p2))), (4, .int (iI (p3))), (5, .int (iI (p4)))]) [0, 1, 2, 3, 4, 5, 6, 7, 8] rfl ?_
    refine inner _ _ (A.1 24 ++ w4 p0 ++ w4 p1 ++ w4 p2) u3 (by simp only [List.length_append, List.length_cons, List.length_nil, w4]; omega) hTu3 hFu3 (fun u4 hTu4 hFu4 => ?_)
    refine v_iload hX 0 rfl (atL dAX8_feed_0 39 rfl) ?_
    refine v_if_lt hX ⟨by omega, by omega⟩ (tgt := 116) (atL dAX8_feed_0 40 rfl) (by decide) (fun h79 => ?_) (fun h79 => absurd h79 (by omega))
    refine v_iinc hX (lv' := [(6, .int (iI (3 + 1))), (8, .int (iI ((-8)))), (7, .int (iI (p3))), (0, .ref (w.1 13 0)), (1, .int (iI (p0))), (2, .int (iI (p1))), (3, .int (iI (p2))), (4, .int (iI (p3))), (5, .int (iI (p4)))]) 2 rfl (iI_add _ _) (Nat.le_of_ble_eq_true rfl) rfl (atL dAX8_feed_0 59 rfl) ?_
    refine v_goto hX (tgt := 23) (atL dAX8_feed_1 0 rfl) (by decide) ?_
    refine v_sub (lv' := [(6, .int (iI (3 + 1))), (0, .ref (w.1 13 0)), (1, .int (iI (p0))), (2, .int (iI (p1))), (3, .int (iI (p2))), (4, .int (iI (p3))), (5, .int (iI (p4)))]) [0, 3, 4, 5, 6, 7, 8] rfl ?_
    rw [show (3 : Int) + 1 = 4 from rfl]
    refine v_iload hX 0 rfl (atL dAX8_feed_0 13 rfl) ?_
    refine v_iconst hX (atL dAX8_feed_0 14 rfl) ?_
    refine v_icmp_ge hX ⟨by omega, by omega⟩ ⟨by omega, by omega⟩ (tgt := 122) (atL dAX8_feed_0 15 rfl) (by decide) (fun h26 => absurd h26 (by omega)) (fun h26 => ?_)
    refine v_iload hX 0 rfl (atL dAX8_feed_0 16 rfl) ?_
    refine v_if_ne hX ⟨by omega, by omega⟩ (tgt := 38) (atL dAX8_feed_0 17 rfl) (by decide) (fun h31 => ?_) (fun h31 => absurd h31 (by omega))
    refine v_iload hX 0 rfl (atL dAX8_feed_0 20 rfl) ?_
    refine v_iconst hX (atL dAX8_feed_0 21 rfl) ?_
    refine v_icmp_ne hX ⟨by omega, by omega⟩ ⟨by omega, by omega⟩ (tgt := 48) (atL dAX8_feed_0 22 rfl) (by decide) (fun h41 => ?_) (fun h41 => absurd h41 (by omega))
    refine v_iload hX 0 rfl (atL dAX8_feed_0 25 rfl) ?_
    refine v_iconst hX (atL dAX8_feed_0 26 rfl) ?_
    refine v_icmp_ne hX ⟨by omega, by omega⟩ ⟨by omega, by omega⟩ (tgt := 58) (atL dAX8_feed_0 27 rfl) (by decide) (fun h51 => ?_) (fun h51 => absurd h51 (by omega))
    refine v_iload hX 0 rfl (atL dAX8_feed_0 30 rfl) ?_
    refine v_iconst hX (atL dAX8_feed_0 31 rfl) ?_
    refine v_icmp_ne hX ⟨by omega, by omega⟩ ⟨by omega, by omega⟩ (tgt := 69) (atL dAX8_feed_0 32 rfl) (by decide) (fun h61 => ?_) (fun h61 => absurd h61 (by omega))
    refine v_iload hX 6 rfl (atL dAX8_feed_0 35 rfl) ?_
    refine v_istore hX (lv' := [(7, .int (iI (p4))), (6, .int (iI (4))), (0, .ref (w.1 13 0)), (1, .int (iI (p0))), (2, .int (iI (p1))), (3, .int (iI (p2))), (4, .int (iI (p3))), (5, .int (iI (p4)))]) (Nat.le_of_ble_eq_true rfl) rfl (atL dAX8_feed_0 36 rfl) ?_
    refine v_bipush hX (by decide +kernel) (atL dAX8_feed_0 37 rfl) ?_
    refine v_istore hX (lv' := [(8, .int (iI (24))), (7, .int (iI (p4))), (6, .int (iI (4))), (0, .ref (w.1 13 0)), (1, .int (iI (p0))), (2, .int (iI (p1))), (3, .int (iI (p2))), (4, .int (iI (p3))), (5, .int (iI (p4)))]) (Nat.le_of_ble_eq_true rfl) rfl (atL dAX8_feed_0 38 rfl) ?_
    refine v_sub (lv' := [(8, .int (iI (24))), (7, .int (iI (p4))), (6, .int (iI (4))), (0, .ref (w.1 13 0)), (1, .int (iI (p0))), (2, .int (iI (p1))), (3, .int (iI (p2))), (4, .int (iI (p3))), (5, .int (iI (p4)))]) [0, 1, 2, 3, 4, 5, 6, 7, 8] rfl ?_
    refine inner _ _ (A.1 24 ++ w4 p0 ++ w4 p1 ++ w4 p2 ++ w4 p3) u4 (by simp only [List.length_append, List.length_cons, List.length_nil, w4]; omega) hTu4 hFu4 (fun u5 hTu5 hFu5 => ?_)
    refine v_iload hX 0 rfl (atL dAX8_feed_0 39 rfl) ?_
    refine v_if_lt hX ⟨by omega, by omega⟩ (tgt := 116) (atL dAX8_feed_0 40 rfl) (by decide) (fun h79 => ?_) (fun h79 => absurd h79 (by omega))
    refine v_iinc hX (lv' := [(6, .int (iI (4 + 1))), (8, .int (iI ((-8)))), (7, .int (iI (p4))), (0, .ref (w.1 13 0)), (1, .int (iI (p0))), (2, .int (iI (p1))), (3, .int (iI (p2))), (4, .int (iI (p3))), (5, .int (iI (p4)))]) 2 rfl (iI_add _ _) (Nat.le_of_ble_eq_true rfl) rfl (atL dAX8_feed_0 59 rfl) ?_
    refine v_goto hX (tgt := 23) (atL dAX8_feed_1 0 rfl) (by decide) ?_
    refine v_sub (lv' := [(6, .int (iI (4 + 1))), (0, .ref (w.1 13 0)), (1, .int (iI (p0))), (2, .int (iI (p1))), (3, .int (iI (p2))), (4, .int (iI (p3))), (5, .int (iI (p4)))]) [0, 3, 4, 5, 6, 7, 8] rfl ?_
    rw [show (4 : Int) + 1 = 5 from rfl]
    have hxf := hTu5.1
    have hlf : (A.1 24 ++ w4 p0 ++ w4 p1 ++ w4 p2 ++ w4 p3 ++ w4 p4).length = lT + 20 := by simp only [List.length_append, List.length_cons, List.length_nil, w4]; omega
    refine v_iload hX 0 rfl (atL dAX8_feed_0 13 rfl) ?_
    refine v_iconst hX (atL dAX8_feed_0 14 rfl) ?_
    refine v_icmp_ge hX ⟨by omega, by omega⟩ ⟨by omega, by omega⟩ (tgt := 122) (atL dAX8_feed_0 15 rfl) (by decide) (fun h26 => ?_) (fun h26 => absurd h26 (by omega))
    refine v_aload_n hX 1 rfl (atL dAX8_feed_1 1 rfl) ?_
    refine gf_X8_234 hX (v := ((A.1 24 ++ w4 p0 ++ w4 p1 ++ w4 p2 ++ w4 p3 ++ w4 p4).length : Int)) (hxf) hk0 (atL dAX8_feed_1 2 rfl) ?_
    exact v_iret hX (atL dAX8_feed_1 3 rfl) (hret _ _ ⟨A.put 24 (A.1 24 ++ w4 p0 ++ w4 p1 ++ w4 p2 ++ w4 p3 ++ w4 p4), by rw [hFu5.2 0 (by decide), h00]; unfold f_feed; rw [if_neg (by omega), hlf, hlT], HM.tap (s0 := s0) (hM.1.fg hG) hA hD (by rw [hlf]; omega) ((((((hM.1.2.1.2.2.1).app w4_by).app w4_by).app w4_by).app w4_by).app w4_by) hTu5 hFu5, hG.fc.fr hFu5.1 (by decide)⟩)
  · refine v_iconst hX (atL dAX8_feed_0 9 rfl) ?_
    exact v_iret hX (atL dAX8_feed_0 10 rfl) (hret _ _ ⟨A, by rw [show su σ 10 0 0 0 10 0 0 = 0 from su_s]; unfold f_feed; rw [if_pos (by omega)], hM.same (FG.rf.s10 (by decide) (by decide)) (hM.2.1.s1 (by decide)) (hM.2.2.s10 (by decide) (by decide)), (FG.rf.s10 (by decide) (by decide) : FG σ (su σ 10 0 0 0)).fc⟩)
