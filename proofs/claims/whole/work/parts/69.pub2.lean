set_option maxHeartbeats 1000000 in
set_option maxRecDepth 100000 in
theorem c_X6_feed (l : Launch) (w : Wl) (σ : St) (hk0 : w.2 0 0) (A : Ab) (hS : HS σ A) (p0 : Int) (hp0 : rI p0) (p1 : Int) (hp1 : rI p1) (p2 : Int) (hp2 : rI p2) (p3 : Int) (hp3 : rI p3) (p4 : Int) (hp4 : rI p4) : Cn l yX6_feed cX6_feed 6 (Option.some Jvm.ClassFile.FieldType.int) 2 42 wI [.ref (w.1 0 0), .int (iI (p0)), .int (iI (p1)), .int (iI (p2)), .int (iI (p3)), .int (iI (p4))] w σ (fun a σ' => ∃ A', f_feed A p0 p1 p2 p3 p4 = (0, a, A') ∧ HS σ' A' ∧ FM σ σ') := by
  refine Cn.of (own := RX6) (lv := [(0, .ref (w.1 0 0)), (1, .int (iI (p0))), (2, .int (iI (p1))), (3, .int (iI (p2))), (4, .int (iI (p3))), (5, .int (iI (p4)))]) (by decide +kernel) rfl (Nat.le_of_ble_eq_true rfl) rfl (fun X hX hxl hR hcl hret => ?_)
  subst hxl
  have hH : ∀ c q, (c, q) ∈ mn σ 0 0 → w.2 c q := fun c q h => hcl 0 0 hk0 (c, q) h
  have hp0a := hp0.1
  have hp0b := hp0.2
  have hp1a := hp1.1
  have hp1b := hp1.2
  have hp2a := hp2.1
  have hp2b := hp2.2
  have hp3a := hp3.1
  have hp3b := hp3.2
  have hp4a := hp4.1
  have hp4b := hp4.2
  have hA := hS.2.1
  have hD := hS.2.2.1
  have hT := hS.1 24 (by omega)
  obtain ⟨lT, hlT⟩ : ∃ q, (A.1 24).length = q := ⟨_, rfl⟩
  have hqlT : lT ≤ 260 := by rw [← hlT]; exact hT.cap
  refine v_aload_n hX 0 rfl (atL dAX6_feed_0 0 rfl) ?_
  refine gf_X6_18 hX hk0 (atL dAX6_feed_0 1 rfl) ?_
  refine gf_X6_86 hX (v := ((lT : Nat) : Int)) ((hT.len.trans (by rw [hlT]))) (hH 1 24 (by simp [mn, tp])) (atL dAX6_feed_0 2 rfl) ?_
  refine v_bipush hX (by decide +kernel) (atL dAX6_feed_0 3 rfl) ?_
  refine v_iadd hX (iI_add _ _) (atL dAX6_feed_0 4 rfl) ?_
  refine v_sipush hX (by decide +kernel) (atL dAX6_feed_0 5 rfl) ?_
  refine v_icmp_le hX ⟨by omega, by omega⟩ ⟨by omega, by omega⟩ (tgt := 18) (atL dAX6_feed_0 6 rfl) (by decide) (fun h13 => ?_) (fun h13 => ?_)
  · refine v_aload_n hX 0 rfl (atL dAX6_feed_0 9 rfl) ?_
    refine gf_X6_18 hX hk0 (atL dAX6_feed_0 10 rfl) ?_
    refine v_iload_n hX 1 rfl (atL dAX6_feed_0 11 rfl) ?_
    refine v_callV hX (As := [.int (iI (p0))]) (rest := []) (c_X4_addWord (xl X) w σ 24 (hH 1 24 (by simp [mn, tp])) (hA 24) p0 hp0 (by rw [hT.2, hlT]; show _ ≤ 260; omega)) lk_X6_89 (hH 1 24 (by simp [mn, tp])) (fun _ => rfl) rfl rfl rfl (by rw [hR]; exact ⟨Nat.le_of_ble_eq_true rfl, Nat.le_of_ble_eq_true rfl⟩) ⟨Nat.zero_le _, Nat.zero_le _⟩ rfl (Nat.le_of_ble_eq_true rfl) (atL dAX6_feed_0 12 rfl) (fun _ s1 e1 => ?_)
    rw [hT.2] at e1
    change _ = sr _ 24 (A.1 24 ++ w4 p0) at e1
    have hl1 : (A.1 24 ++ w4 p0).length = lT + 4 := by rw [List.length_append, hlT]; rfl
    obtain ⟨hr1, hf1⟩ := RW_of (M := A.1 24 ++ w4 p0) (hA 24) e1 (by rw [hl1]; show _ ≤ 260; omega) (hT.by.app w4_by)
    have hA1 := hA.one hr1 hf1 (by simp)
    have hD1 := hD.fr hf1 (by simp)
    have hc1_400 := hf1 4 0 (by simp <;> omega)
    have hF1 := (FH.rf : FH 24 σ σ).tr hf1 (by simp [Hk] <;> omega)
    show V X _ w _ _ s1 []
    refine v_aload_n hX 0 rfl (atL dAX6_feed_0 13 rfl) ?_
    refine gf_X6_18 hX hk0 (atL dAX6_feed_0 14 rfl) ?_
    refine v_iload_n hX 2 rfl (atL dAX6_feed_0 15 rfl) ?_
    refine v_callV hX (As := [.int (iI (p1))]) (rest := []) (c_X4_addWord (xl X) w s1 24 (hH 1 24 (by simp [mn, tp])) (hA1 24) p1 hp1 (by rw [hr1.2, hl1]; show _ ≤ 260; omega)) lk_X6_89 (hH 1 24 (by simp [mn, tp])) (fun _ => rfl) rfl rfl rfl (by rw [hR]; exact ⟨Nat.le_of_ble_eq_true rfl, Nat.le_of_ble_eq_true rfl⟩) ⟨Nat.zero_le _, Nat.zero_le _⟩ rfl (Nat.le_of_ble_eq_true rfl) (atL dAX6_feed_0 16 rfl) (fun _ s2 e2 => ?_)
    rw [hr1.2] at e2
    change _ = sr _ 24 (A.1 24 ++ w4 p0 ++ w4 p1) at e2
    have hl2 : (A.1 24 ++ w4 p0 ++ w4 p1).length = lT + 4 + 4 := by rw [List.length_append, hl1]; rfl
    obtain ⟨hr2, hf2⟩ := RW_of (M := A.1 24 ++ w4 p0 ++ w4 p1) (hA1 24) e2 (by rw [hl2]; show _ ≤ 260; omega) (hr1.by.app w4_by)
    have hA2 := hA1.one hr2 hf2 (by simp)
    have hD2 := hD1.fr hf2 (by simp)
    have hc2_400 := hf2 4 0 (by simp <;> omega)
    have hF2 := hF1.tr hf2 (by simp [Hk] <;> omega)
    show V X _ w _ _ s2 []
    refine v_aload_n hX 0 rfl (atL dAX6_feed_0 17 rfl) ?_
    refine gf_X6_18 hX hk0 (atL dAX6_feed_0 18 rfl) ?_
    refine v_iload_n hX 3 rfl (atL dAX6_feed_0 19 rfl) ?_
    refine v_callV hX (As := [.int (iI (p2))]) (rest := []) (c_X4_addWord (xl X) w s2 24 (hH 1 24 (by simp [mn, tp])) (hA2 24) p2 hp2 (by rw [hr2.2, hl2]; show _ ≤ 260; omega)) lk_X6_89 (hH 1 24 (by simp [mn, tp])) (fun _ => rfl) rfl rfl rfl (by rw [hR]; exact ⟨Nat.le_of_ble_eq_true rfl, Nat.le_of_ble_eq_true rfl⟩) ⟨Nat.zero_le _, Nat.zero_le _⟩ rfl (Nat.le_of_ble_eq_true rfl) (atL dAX6_feed_0 20 rfl) (fun _ s3 e3 => ?_)
    rw [hr2.2] at e3
    change _ = sr _ 24 (A.1 24 ++ w4 p0 ++ w4 p1 ++ w4 p2) at e3
    have hl3 : (A.1 24 ++ w4 p0 ++ w4 p1 ++ w4 p2).length = lT + 4 + 4 + 4 := by rw [List.length_append, hl2]; rfl
    obtain ⟨hr3, hf3⟩ := RW_of (M := A.1 24 ++ w4 p0 ++ w4 p1 ++ w4 p2) (hA2 24) e3 (by rw [hl3]; show _ ≤ 260; omega) (hr2.by.app w4_by)
    have hA3 := hA2.one hr3 hf3 (by simp)
    have hD3 := hD2.fr hf3 (by simp)
    have hc3_400 := hf3 4 0 (by simp <;> omega)
    have hF3 := hF2.tr hf3 (by simp [Hk] <;> omega)
    show V X _ w _ _ s3 []
    refine v_aload_n hX 0 rfl (atL dAX6_feed_0 21 rfl) ?_
    refine gf_X6_18 hX hk0 (atL dAX6_feed_0 22 rfl) ?_
    refine v_iload hX 4 rfl (atL dAX6_feed_0 23 rfl) ?_
    refine v_callV hX (As := [.int (iI (p3))]) (rest := []) (c_X4_addWord (xl X) w s3 24 (hH 1 24 (by simp [mn, tp])) (hA3 24) p3 hp3 (by rw [hr3.2, hl3]; show _ ≤ 260; omega)) lk_X6_89 (hH 1 24 (by simp [mn, tp])) (fun _ => rfl) rfl rfl rfl (by rw [hR]; exact ⟨Nat.le_of_ble_eq_true rfl, Nat.le_of_ble_eq_true rfl⟩) ⟨Nat.zero_le _, Nat.zero_le _⟩ rfl (Nat.le_of_ble_eq_true rfl) (atL dAX6_feed_0 24 rfl) (fun _ s4 e4 => ?_)
    rw [hr3.2] at e4
    change _ = sr _ 24 (A.1 24 ++ w4 p0 ++ w4 p1 ++ w4 p2 ++ w4 p3) at e4
    have hl4 : (A.1 24 ++ w4 p0 ++ w4 p1 ++ w4 p2 ++ w4 p3).length = lT + 4 + 4 + 4 + 4 := by rw [List.length_append, hl3]; rfl
    obtain ⟨hr4, hf4⟩ := RW_of (M := A.1 24 ++ w4 p0 ++ w4 p1 ++ w4 p2 ++ w4 p3) (hA3 24) e4 (by rw [hl4]; show _ ≤ 260; omega) (hr3.by.app w4_by)
    have hA4 := hA3.one hr4 hf4 (by simp)
    have hD4 := hD3.fr hf4 (by simp)
    have hc4_400 := hf4 4 0 (by simp <;> omega)
    have hF4 := hF3.tr hf4 (by simp [Hk] <;> omega)
    show V X _ w _ _ s4 []
    refine v_aload_n hX 0 rfl (atL dAX6_feed_0 25 rfl) ?_
    refine gf_X6_18 hX hk0 (atL dAX6_feed_0 26 rfl) ?_
    refine v_iload hX 5 rfl (atL dAX6_feed_0 27 rfl) ?_
    refine v_callV hX (As := [.int (iI (p4))]) (rest := []) (c_X4_addWord (xl X) w s4 24 (hH 1 24 (by simp [mn, tp])) (hA4 24) p4 hp4 (by rw [hr4.2, hl4]; show _ ≤ 260; omega)) lk_X6_89 (hH 1 24 (by simp [mn, tp])) (fun _ => rfl) rfl rfl rfl (by rw [hR]; exact ⟨Nat.le_of_ble_eq_true rfl, Nat.le_of_ble_eq_true rfl⟩) ⟨Nat.zero_le _, Nat.zero_le _⟩ rfl (Nat.le_of_ble_eq_true rfl) (atL dAX6_feed_0 28 rfl) (fun _ s5 e5 => ?_)
    rw [hr4.2] at e5
    change _ = sr _ 24 (A.1 24 ++ w4 p0 ++ w4 p1 ++ w4 p2 ++ w4 p3 ++ w4 p4) at e5
    have hl5 : (A.1 24 ++ w4 p0 ++ w4 p1 ++ w4 p2 ++ w4 p3 ++ w4 p4).length = lT + 4 + 4 + 4 + 4 + 4 := by rw [List.length_append, hl4]; rfl
    obtain ⟨hr5, hf5⟩ := RW_of (M := A.1 24 ++ w4 p0 ++ w4 p1 ++ w4 p2 ++ w4 p3 ++ w4 p4) (hA4 24) e5 (by rw [hl5]; show _ ≤ 260; omega) (hr4.by.app w4_by)
    have hA5 := hA4.one hr5 hf5 (by simp)
    have hD5 := hD4.fr hf5 (by simp)
    have hc5_400 := hf5 4 0 (by simp <;> omega)
    have hF5 := hF4.tr hf5 (by simp [Hk] <;> omega)
    show V X _ w _ _ s5 []
    refine v_aload_n hX 0 rfl (atL dAX6_feed_0 29 rfl) ?_
    refine gf_X6_18 hX hk0 (atL dAX6_feed_0 30 rfl) ?_
    refine gf_X6_86 hX (v := ((lT + 4 + 4 + 4 + 4 + 4 : Nat) : Int)) ((hr5.len.trans (by rw [hl5]))) (hH 1 24 (by simp [mn, tp])) (atL dAX6_feed_0 31 rfl) ?_
    exact v_iret hX (atL dAX6_feed_0 32 rfl) (hret _ _ ⟨A.put 24 (A.1 24 ++ w4 p0 ++ w4 p1 ++ w4 p2 ++ w4 p3 ++ w4 p4), by unfold f_feed; rw [if_neg (by omega), hlT], hS.put hF5 hA5 hD5 hr5, hF5.fm⟩)
  · refine v_iconst hX (atL dAX6_feed_0 7 rfl) ?_
    exact v_iret hX (atL dAX6_feed_0 8 rfl) (hret _ _ ⟨A, by unfold f_feed; rw [if_pos (by omega)], hS, FM.rf⟩)

set_option maxHeartbeats 1000000 in
set_option maxRecDepth 100000 in
theorem c_X6_keys (l : Launch) (w : Wl) (σ : St) (hk0 : w.2 0 0) (A : Ab) (hS : HS σ A)  : Cn l yX6_keys cX6_keys 1 (Option.some Jvm.ClassFile.FieldType.int) 0 0 wI [.ref (w.1 0 0)] w σ (fun a σ' => a = (A.2.1 : Int) ∧ HS σ' A ∧ FM σ σ') := by
  refine Cn.of (own := RX6) (lv := [(0, .ref (w.1 0 0))]) (by decide +kernel) rfl (Nat.le_of_ble_eq_true rfl) rfl (fun X hX hxl hR hcl hret => ?_)
  subst hxl
  have hH : ∀ c q, (c, q) ∈ mn σ 0 0 → w.2 c q := fun c q h => hcl 0 0 hk0 (c, q) h
  have hA := hS.2.1
  have hD := hS.2.2.1
  refine v_aload_n hX 0 rfl (atL dAX6_keys_0 0 rfl) ?_
  refine gf_X6_28 hX (v := (A.2.1 : Int)) (hS.2.2.2.1) hk0 (atL dAX6_keys_0 1 rfl) ?_
  exact v_iret hX (atL dAX6_keys_0 2 rfl) (hret _ _ ⟨rfl, hS, FM.rf⟩)

set_option maxHeartbeats 1000000 in
set_option maxRecDepth 100000 in
theorem c_X6_load (l : Launch) (hst : l.stackTraces = false) (w : Wl) (σ : St) (hk0 : w.2 0 0) (A : Ab) (hS : HS σ A) (p0 : Int) (hp0 : rI p0) (p1 : Int) (hp1 : rI p1) : Cx l yX6_load cX6_load 4 none 7 103 2 12 wN [.ref (w.1 0 0), .int (iI (p0)), .int (iI (p1))] w σ (fun a σ' => ∃ A', f_load A p0 p1 = (0, 0, A') ∧ HS σ' A' ∧ FM σ σ') (Xc (f_load A p0 p1) A) := by
  refine Cx.of (own := RX6) (lv := [(0, .ref (w.1 0 0)), (1, .int (iI (p0))), (2, .int (iI (p1)))]) (by decide +kernel) rfl (Nat.le_of_ble_eq_true rfl) rfl (fun X hX hxl hR hcl hret hx => ?_)
  subst hxl
  have hH : ∀ c q, (c, q) ∈ mn σ 0 0 → w.2 c q := fun c q h => hcl 0 0 hk0 (c, q) h
  have hp0a := hp0.1
  have hp0b := hp0.2
  have hp1a := hp1.1
  have hp1b := hp1.2
  have hA := hS.2.1
  have hD := hS.2.2.1
  have hT := hS.1 24 (by omega)
  obtain ⟨lT, hlT⟩ : ∃ q, (A.1 24).length = q := ⟨_, rfl⟩
  have hqlT : lT ≤ 260 := by rw [← hlT]; exact hT.cap
  refine v_aload_n hX 0 rfl (atL dAX6_load_0 0 rfl) ?_
  refine v_iload_n hX 1 rfl (atL dAX6_load_0 1 rfl) ?_
  refine v_callVX hX (As := [.int (iI (p0))]) (rest := []) (c_X6_slotAt (xl X) hst w σ hk0 p0 hp0) lk_X6_92 hk0 (fun _ => rfl) rfl rfl rfl (by rw [hR]; exact ⟨Nat.le_of_ble_eq_true rfl, Nat.le_of_ble_eq_true rfl⟩) (by rw [hR]; exact ⟨Nat.le_of_ble_eq_true rfl, Nat.le_of_ble_eq_true rfl⟩) rfl (Nat.le_of_ble_eq_true rfl) (atL dAX6_load_0 2 rfl) (fun E hE => hx E (Or.inl ⟨hE.1, by unfold f_load; exact if_pos (fun q => hE.2 (by omega))⟩) _ (Nat.le_of_ble_eq_true rfl) (Nat.le_of_ble_eq_true rfl)) (fun r1 z1 g1 => ?_)
  obtain ⟨sp0, hsp0, hsp02, ga1, gb1⟩ := g1
  rw [gb1]
  subst ga1
  have hrsp0 := hS.1 sp0 (by omega)
  obtain ⟨lsp0, hlsp0⟩ : ∃ q, (A.1 sp0).length = q := ⟨_, rfl⟩
  have hqsp0 : lsp0 ≤ 256 := by rw [← hlsp0]; exact hS.sl hsp02
  have hvsp0 : w.2 1 sp0 := hcl 11 0 (hH 11 0 (by simp [mn, tp])) (1, sp0) (by simp [mn]; omega)
  have htsp0 : p0.toNat = sp0 := by omega
  show V X _ w _ _ σ [.ref (w.1 1 sp0)]
  refine v_astore_n hX (i := 3) rfl (lv' := [(3, .ref (w.1 1 sp0)), (0, .ref (w.1 0 0)), (1, .int (iI (p0))), (2, .int (iI (p1)))]) (Nat.le_of_ble_eq_true rfl) rfl (atL dAX6_load_0 3 rfl) ?_
  refine v_iload_n hX 3 rfl (atL dAX6_load_0 4 rfl) ?_
  refine v_if_lt hX ⟨by omega, by omega⟩ (tgt := 28) (atL dAX6_load_0 5 rfl) (by decide) (fun h7 => ?_) (fun h7 => ?_)
  · exact v_throwS hX hst wd_317 xi_A (List.mem_of_getElem? (i := 1) rfl) xg_A xl_A xn_A (by decide +kernel) (atL dAX6_load_0 14 rfl) (atL dAX6_load_0 15 rfl) (atL dAX6_load_0 16 rfl) (atL dAX6_load_0 17 rfl) (atL dAX6_load_0 18 rfl) (by rw [hR]; exact ⟨Nat.le_of_ble_eq_true rfl, Nat.le_of_ble_eq_true rfl⟩) (by rw [hR]; exact ⟨Nat.le_of_ble_eq_true rfl, Nat.le_of_ble_eq_true rfl⟩) (hx _ (Or.inr ⟨rfl, by unfold f_load; rw [if_neg (by omega), if_pos (by omega)]⟩) _ (Nat.le_of_ble_eq_true rfl) (Nat.le_of_ble_eq_true rfl))
  · refine v_iload_n hX 3 rfl (atL dAX6_load_0 6 rfl) ?_
    refine v_aload_n hX 1 rfl (atL dAX6_load_0 7 rfl) ?_
    refine gf_X6_18 hX hk0 (atL dAX6_load_0 8 rfl) ?_
    refine gf_X6_86 hX (v := ((lT : Nat) : Int)) ((hT.len.trans (by rw [hlT]))) (hH 1 24 (by simp [mn, tp])) (atL dAX6_load_0 9 rfl) ?_
    refine v_icmp_gt hX ⟨by omega, by omega⟩ ⟨by omega, by omega⟩ (tgt := 28) (atL dAX6_load_0 10 rfl) (by decide) (fun h18 => ?_) (fun h18 => ?_)
    · exact v_throwS hX hst wd_317 xi_A (List.mem_of_getElem? (i := 1) rfl) xg_A xl_A xn_A (by decide +kernel) (atL dAX6_load_0 14 rfl) (atL dAX6_load_0 15 rfl) (atL dAX6_load_0 16 rfl) (atL dAX6_load_0 17 rfl) (atL dAX6_load_0 18 rfl) (by rw [hR]; exact ⟨Nat.le_of_ble_eq_true rfl, Nat.le_of_ble_eq_true rfl⟩) (by rw [hR]; exact ⟨Nat.le_of_ble_eq_true rfl, Nat.le_of_ble_eq_true rfl⟩) (hx _ (Or.inr ⟨rfl, by unfold f_load; rw [if_neg (by omega), if_pos (by omega)]⟩) _ (Nat.le_of_ble_eq_true rfl) (Nat.le_of_ble_eq_true rfl))
    · refine v_iload_n hX 3 rfl (atL dAX6_load_0 11 rfl) ?_
      refine v_sipush hX (by decide +kernel) (atL dAX6_load_0 12 rfl) ?_
      refine v_icmp_le hX ⟨by omega, by omega⟩ ⟨by omega, by omega⟩ (tgt := 38) (atL dAX6_load_0 13 rfl) (by decide) (fun h25 => ?_) (fun h25 => ?_)
      · obtain ⟨i1, rfl⟩ : ∃ q : Nat, p1 = (q : Int) := ⟨p1.toNat, by omega⟩
        refine v_aload_n hX 0 rfl (atL dAX6_load_0 19 rfl) ?_
        refine v_aload_n hX 1 rfl (atL dAX6_load_0 20 rfl) ?_
        refine gf_X6_18 hX hk0 (atL dAX6_load_0 21 rfl) ?_
        refine v_iconst hX (atL dAX6_load_0 22 rfl) ?_
        refine v_iload_n hX 3 rfl (atL dAX6_load_0 23 rfl) ?_
        refine v_callV hX (As := [.ref (w.1 1 24), .int (iI (0)), .int (iI ((i1 : Int)))]) (rest := []) (c_X4_takePart (xl X) w σ sp0 hvsp0 (hA sp0) 24 (hH 1 24 (by simp [mn, tp])) (hA 24) (by omega) 0 i1 (by rw [hT.2, hlT]; omega) (by rw [rcap_s (by omega)]; omega)) lk_X6_103 hvsp0 (fun _ => rfl) rfl rfl rfl (by rw [hR]; exact ⟨Nat.le_of_ble_eq_true rfl, Nat.le_of_ble_eq_true rfl⟩) (by rw [hR]; exact ⟨Nat.le_of_ble_eq_true rfl, Nat.le_of_ble_eq_true rfl⟩) rfl (Nat.le_of_ble_eq_true rfl) (atL dAX6_load_0 24 rfl) (fun _ s2 e2 => ?_)
        rw [hT.2] at e2
        have hl2 : (((A.1 24).drop 0).take i1).length = i1 := by rw [List.length_take, List.length_drop, hlT]; omega
        obtain ⟨hr2, hf2⟩ := RW_of (M := ((A.1 24).drop 0).take i1) (hA sp0) e2 (by rw [hl2]; rw [rcap_s (by omega)]; omega) (hT.by.drop.take)
        have hA2 := hA.one hr2 hf2 (by simp)
        have hD2 := hD.fr hf2 (by simp)
        have hr2_24 := hT.fr hf2 (by simp <;> omega) (by simp <;> omega)
        have hc2_400 := hf2 4 0 (by simp <;> omega)
        have hF2 := (FH.rf : FH sp0 σ σ).tr hf2 (by simp [Hk] <;> omega)
        show V X _ w _ _ s2 []
        have hS1 := hS.put hF2 hA2 hD2 hr2
        have hM1 := hF2.fm
        refine v_aload_n hX 1 rfl (atL dAX6_load_0 25 rfl) ?_
        refine gf_X6_18 hX hk0 (atL dAX6_load_0 26 rfl) ?_
        refine v_iconst hX (atL dAX6_load_0 27 rfl) ?_
        refine pf_X6_86 hX (hH 1 24 (by simp [mn, tp])) (atL dAX6_load_0 28 rfl) ?_
        rw [sr_nil]
        obtain ⟨hr3, hf3⟩ := RW_of (s := sr s2 24 []) (hA2 24) rfl (by simp) BY.nil
        generalize sr s2 24 [] = s3 at hr3 hf3 ⊢
        have hl3 : ([] : List Nat).length = 0 := rfl
        have hA3 := hA2.one hr3 hf3 (by simp)
        have hD3 := hD2.fr hf3 (by simp)
        have hc3_400 := hf3 4 0 (by simp <;> omega)
        have hF3 := (FH.rf : FH 24 s2 s2).tr hf3 (by simp [Hk] <;> omega)
        exact v_vret hX (atL dAX6_load_0 29 rfl) (hret () _ ⟨_, by unfold f_load; simp only [htsp0, Int.toNat_natCast]; rw [if_neg (by omega), if_neg (by omega), List.drop_zero], hS1.put hF3 hA3 hD3 hr3, fun c hc => (hF3.fm c hc).trans (hM1 c hc)⟩ _ (Nat.le_of_ble_eq_true rfl) (Nat.le_of_ble_eq_true rfl))
      · exact v_throwS hX hst wd_317 xi_A (List.mem_of_getElem? (i := 1) rfl) xg_A xl_A xn_A (by decide +kernel) (atL dAX6_load_0 14 rfl) (atL dAX6_load_0 15 rfl) (atL dAX6_load_0 16 rfl) (atL dAX6_load_0 17 rfl) (atL dAX6_load_0 18 rfl) (by rw [hR]; exact ⟨Nat.le_of_ble_eq_true rfl, Nat.le_of_ble_eq_true rfl⟩) (by rw [hR]; exact ⟨Nat.le_of_ble_eq_true rfl, Nat.le_of_ble_eq_true rfl⟩) (hx _ (Or.inr ⟨rfl, by unfold f_load; rw [if_neg (by omega), if_pos (by omega)]⟩) _ (Nat.le_of_ble_eq_true rfl) (Nat.le_of_ble_eq_true rfl))

set_option maxHeartbeats 1000000 in
set_option maxRecDepth 100000 in
theorem c_X6_size (l : Launch) (hst : l.stackTraces = false) (w : Wl) (σ : St) (hk0 : w.2 0 0) (A : Ab) (hS : HS σ A) (p0 : Int) (hp0 : rI p0) : Cx l yX6_size cX6_size 2 (Option.some Jvm.ClassFile.FieldType.int) 7 103 1 6 wI [.ref (w.1 0 0), .int (iI (p0))] w σ (fun a σ' => ∃ A', f_size A p0 = (0, a, A') ∧ HS σ' A' ∧ FM σ σ') (Xc (f_size A p0) A) := by
  refine Cx.of (own := RX6) (lv := [(0, .ref (w.1 0 0)), (1, .int (iI (p0)))]) (by decide +kernel) rfl (Nat.le_of_ble_eq_true rfl) rfl (fun X hX hxl hR hcl hret hx => ?_)
  subst hxl
  have hH : ∀ c q, (c, q) ∈ mn σ 0 0 → w.2 c q := fun c q h => hcl 0 0 hk0 (c, q) h
  have hp0a := hp0.1
  have hp0b := hp0.2
  have hA := hS.2.1
  have hD := hS.2.2.1
  refine v_aload_n hX 0 rfl (atL dAX6_size_0 0 rfl) ?_
  refine v_iload_n hX 1 rfl (atL dAX6_size_0 1 rfl) ?_
  refine v_callVX hX (As := [.int (iI (p0))]) (rest := []) (c_X6_slotAt (xl X) hst w σ hk0 p0 hp0) lk_X6_92 hk0 (fun _ => rfl) rfl rfl rfl (by rw [hR]; exact ⟨Nat.le_of_ble_eq_true rfl, Nat.le_of_ble_eq_true rfl⟩) (by rw [hR]; exact ⟨Nat.le_of_ble_eq_true rfl, Nat.le_of_ble_eq_true rfl⟩) rfl (Nat.le_of_ble_eq_true rfl) (atL dAX6_size_0 2 rfl) (fun E hE => hx E (Or.inl ⟨hE.1, by unfold f_size; exact if_pos (fun q => hE.2 (by omega))⟩) _ (Nat.le_of_ble_eq_true rfl) (Nat.le_of_ble_eq_true rfl)) (fun r1 z1 g1 => ?_)
  obtain ⟨sp0, hsp0, hsp02, ga1, gb1⟩ := g1
  rw [gb1]
  subst ga1
  have hrsp0 := hS.1 sp0 (by omega)
  obtain ⟨lsp0, hlsp0⟩ : ∃ q, (A.1 sp0).length = q := ⟨_, rfl⟩
  have hqsp0 : lsp0 ≤ 256 := by rw [← hlsp0]; exact hS.sl hsp02
  have hvsp0 : w.2 1 sp0 := hcl 11 0 (hH 11 0 (by simp [mn, tp])) (1, sp0) (by simp [mn]; omega)
  have htsp0 : p0.toNat = sp0 := by omega
  show V X _ w _ _ σ [.ref (w.1 1 sp0)]
  refine gf_X6_86 hX (v := ((lsp0 : Nat) : Int)) ((hrsp0.len.trans (by rw [hlsp0]))) hvsp0 (atL dAX6_size_0 3 rfl) ?_
  exact v_iret hX (atL dAX6_size_0 4 rfl) (hret _ _ ⟨A, by unfold f_size; simp only [htsp0]; rw [if_neg (by omega), hlsp0], hS, FM.rf⟩ _ (Nat.le_of_ble_eq_true rfl) (Nat.le_of_ble_eq_true rfl))

set_option maxHeartbeats 1000000 in
set_option maxRecDepth 100000 in
theorem c_X6_octet (l : Launch) (hst : l.stackTraces = false) (w : Wl) (σ : St) (hk0 : w.2 0 0) (A : Ab) (hS : HS σ A) (p0 : Int) (hp0 : rI p0) (p1 : Int) (hp1 : rI p1) : Cx l yX6_octet cX6_octet 4 (Option.some Jvm.ClassFile.FieldType.int) 7 103 1 6 wI [.ref (w.1 0 0), .int (iI (p0)), .int (iI (p1))] w σ (fun a σ' => ∃ A', f_octet A p0 p1 = (0, a, A') ∧ HS σ' A' ∧ FM σ σ') (Xc (f_octet A p0 p1) A) := by
  refine Cx.of (own := RX6) (lv := [(0, .ref (w.1 0 0)), (1, .int (iI (p0))), (2, .int (iI (p1)))]) (by decide +kernel) rfl (Nat.le_of_ble_eq_true rfl) rfl (fun X hX hxl hR hcl hret hx => ?_)
  subst hxl
  have hH : ∀ c q, (c, q) ∈ mn σ 0 0 → w.2 c q := fun c q h => hcl 0 0 hk0 (c, q) h
  have hp0a := hp0.1
  have hp0b := hp0.2
  have hp1a := hp1.1
  have hp1b := hp1.2
  have hA := hS.2.1
  have hD := hS.2.2.1
  refine v_aload_n hX 0 rfl (atL dAX6_octet_0 0 rfl) ?_
  refine v_iload_n hX 1 rfl (atL dAX6_octet_0 1 rfl) ?_
  refine v_callVX hX (As := [.int (iI (p0))]) (rest := []) (c_X6_slotAt (xl X) hst w σ hk0 p0 hp0) lk_X6_92 hk0 (fun _ => rfl) rfl rfl rfl (by rw [hR]; exact ⟨Nat.le_of_ble_eq_true rfl, Nat.le_of_ble_eq_true rfl⟩) (by rw [hR]; exact ⟨Nat.le_of_ble_eq_true rfl, Nat.le_of_ble_eq_true rfl⟩) rfl (Nat.le_of_ble_eq_true rfl) (atL dAX6_octet_0 2 rfl) (fun E hE => hx E (Or.inl ⟨hE.1, by unfold f_octet; exact if_pos (fun q => hE.2 (by omega))⟩) _ (Nat.le_of_ble_eq_true rfl) (Nat.le_of_ble_eq_true rfl)) (fun r1 z1 g1 => ?_)
  obtain ⟨sp0, hsp0, hsp02, ga1, gb1⟩ := g1
  rw [gb1]
  subst ga1
  have hrsp0 := hS.1 sp0 (by omega)
  obtain ⟨lsp0, hlsp0⟩ : ∃ q, (A.1 sp0).length = q := ⟨_, rfl⟩
  have hqsp0 : lsp0 ≤ 256 := by rw [← hlsp0]; exact hS.sl hsp02
  have hvsp0 : w.2 1 sp0 := hcl 11 0 (hH 11 0 (by simp [mn, tp])) (1, sp0) (by simp [mn]; omega)
  have htsp0 : p0.toNat = sp0 := by omega
  show V X _ w _ _ σ [.ref (w.1 1 sp0)]
  refine v_astore_n hX (i := 3) rfl (lv' := [(3, .ref (w.1 1 sp0)), (0, .ref (w.1 0 0)), (1, .int (iI (p0))), (2, .int (iI (p1)))]) (Nat.le_of_ble_eq_true rfl) rfl (atL dAX6_octet_0 3 rfl) ?_
  refine v_aload_n hX 0 rfl (atL dAX6_octet_0 4 rfl) ?_
  refine v_iload_n hX 3 rfl (atL dAX6_octet_0 5 rfl) ?_
  refine v_callV hX (As := [.int (iI (p1))]) (rest := []) (c_X4_has (xl X) w σ sp0 hvsp0 (hA sp0) p1 ⟨by omega, by omega⟩) lk_X6_107 hvsp0 (fun _ => rfl) rfl rfl rfl (by rw [hR]; exact ⟨Nat.le_of_ble_eq_true rfl, Nat.le_of_ble_eq_true rfl⟩) (by rw [hR]; exact ⟨Nat.le_of_ble_eq_true rfl, Nat.le_of_ble_eq_true rfl⟩) rfl (Nat.le_of_ble_eq_true rfl) (atL dAX6_octet_0 6 rfl) (fun r2 z2 g2 => ?_)
  obtain ⟨ga2, gb2⟩ := g2
  rw [gb2]
  rw [hrsp0.2] at ga2
  have gc2 : (r2 = 1 ∧ (0 ≤ p1 ∧ p1 < ((lsp0 : Nat) : Int))) ∨ (r2 = 0 ∧ ¬ (0 ≤ p1 ∧ p1 < ((lsp0 : Nat) : Int))) := by rw [ga2, hlsp0]; split <;> simp_all
  show V X _ w _ _ σ [.int (iI (r2))]
  refine v_if_eq hX ⟨by omega, by omega⟩ (tgt := 22) (atL dAX6_octet_0 7 rfl) (by decide) (fun h11 => ?_) (fun h11 => ?_)
  · refine v_iconst hX (atL dAX6_octet_0 12 rfl) ?_
    exact v_iret hX (atL dAX6_octet_0 13 rfl) (hret _ _ ⟨A, by unfold f_octet; simp only [htsp0]; rw [if_neg (by omega), if_neg (by omega)], hS, FM.rf⟩ _ (Nat.le_of_ble_eq_true rfl) (Nat.le_of_ble_eq_true rfl))
  · refine v_aload_n hX 0 rfl (atL dAX6_octet_0 8 rfl) ?_
    refine v_iload_n hX 3 rfl (atL dAX6_octet_0 9 rfl) ?_
    refine v_callV hX (As := [.int (iI (p1))]) (rest := []) (c_X4_at (xl X) w σ sp0 hvsp0 (hA sp0) p1 ⟨by omega, by omega⟩) lk_X6_111 hvsp0 (fun _ => rfl) rfl rfl rfl (by rw [hR]; exact ⟨Nat.le_of_ble_eq_true rfl, Nat.le_of_ble_eq_true rfl⟩) (by rw [hR]; exact ⟨Nat.le_of_ble_eq_true rfl, Nat.le_of_ble_eq_true rfl⟩) rfl (Nat.le_of_ble_eq_true rfl) (atL dAX6_octet_0 10 rfl) (fun r3 z3 g3 => ?_)
    obtain ⟨ga3, gb3⟩ := g3
    rw [gb3]
    rw [hrsp0.2] at ga3
    rw [if_pos (by omega), show (p1 : Int).toNat = (p1).toNat by omega] at ga3
    subst ga3
    have hb3 := hrsp0.by.get ((p1).toNat)
    show V X _ w _ _ σ [.int (iI ((((A.1 sp0).getD ((p1).toNat) 0 : Nat) : Int)))]
    refine v_goto hX (tgt := 23) (atL dAX6_octet_0 11 rfl) (by decide) ?_
    exact v_iret hX (atL dAX6_octet_0 13 rfl) (hret _ _ ⟨A, by unfold f_octet; simp only [htsp0]; rw [if_neg (by omega), if_pos (by omega)], hS, FM.rf⟩ _ (Nat.le_of_ble_eq_true rfl) (Nat.le_of_ble_eq_true rfl))

set_option maxHeartbeats 1000000 in
set_option maxRecDepth 100000 in
theorem c_X6_cut (l : Launch) (hst : l.stackTraces = false) (w : Wl) (σ : St) (hk0 : w.2 0 0) (A : Ab) (hS : HS σ A) (p0 : Int) (hp0 : rI p0) (p1 : Int) (hp1 : rI p1) (p2 : Int) (hp2 : rI p2) (p3 : Int) (hp3 : rI p3) : Cx l yX6_cut cX6_cut 7 (Option.some Jvm.ClassFile.FieldType.int) 7 103 3 18 wI [.ref (w.1 0 0), .int (iI (p0)), .int (iI (p1)), .int (iI (p2)), .int (iI (p3))] w σ (fun a σ' => ∃ A', f_cut A p0 p1 p2 p3 = (0, a, A') ∧ HS σ' A' ∧ FM σ σ') (Xc (f_cut A p0 p1 p2 p3) A) := by
  refine Cx.of (own := RX6) (lv := [(0, .ref (w.1 0 0)), (1, .int (iI (p0))), (2, .int (iI (p1))), (3, .int (iI (p2))), (4, .int (iI (p3)))]) (by decide +kernel) rfl (Nat.le_of_ble_eq_true rfl) rfl (fun X hX hxl hR hcl hret hx => ?_)
  subst hxl
  have hH : ∀ c q, (c, q) ∈ mn σ 0 0 → w.2 c q := fun c q h => hcl 0 0 hk0 (c, q) h
  have hp0a := hp0.1
  have hp0b := hp0.2
  have hp1a := hp1.1
  have hp1b := hp1.2
  have hp2a := hp2.1
  have hp2b := hp2.2
  have hp3a := hp3.1
  have hp3b := hp3.2
  have hA := hS.2.1
  have hD := hS.2.2.1
  refine v_aload_n hX 0 rfl (atL dAX6_cut_0 0 rfl) ?_
  refine v_iload_n hX 1 rfl (atL dAX6_cut_0 1 rfl) ?_
  refine v_callVX hX (As := [.int (iI (p0))]) (rest := []) (c_X6_slotAt (xl X) hst w σ hk0 p0 hp0) lk_X6_92 hk0 (fun _ => rfl) rfl rfl rfl (by rw [hR]; exact ⟨Nat.le_of_ble_eq_true rfl, Nat.le_of_ble_eq_true rfl⟩) (by rw [hR]; exact ⟨Nat.le_of_ble_eq_true rfl, Nat.le_of_ble_eq_true rfl⟩) rfl (Nat.le_of_ble_eq_true rfl) (atL dAX6_cut_0 2 rfl) (fun E hE => hx E (Or.inl ⟨hE.1, by unfold f_cut; exact if_pos (fun q => hE.2 (by omega))⟩) _ (Nat.le_of_ble_eq_true rfl) (Nat.le_of_ble_eq_true rfl)) (fun r1 z1 g1 => ?_)
  obtain ⟨sp0, hsp0, hsp02, ga1, gb1⟩ := g1
  rw [gb1]
  subst ga1
  have hrsp0 := hS.1 sp0 (by omega)
  obtain ⟨lsp0, hlsp0⟩ : ∃ q, (A.1 sp0).length = q := ⟨_, rfl⟩
  have hqsp0 : lsp0 ≤ 256 := by rw [← hlsp0]; exact hS.sl hsp02
  have hvsp0 : w.2 1 sp0 := hcl 11 0 (hH 11 0 (by simp [mn, tp])) (1, sp0) (by simp [mn]; omega)
  have htsp0 : p0.toNat = sp0 := by omega
  show V X _ w _ _ σ [.ref (w.1 1 sp0)]
  refine v_astore hX (lv' := [(5, .ref (w.1 1 sp0)), (0, .ref (w.1 0 0)), (1, .int (iI (p0))), (2, .int (iI (p1))), (3, .int (iI (p2))), (4, .int (iI (p3)))]) (Nat.le_of_ble_eq_true rfl) rfl (atL dAX6_cut_0 3 rfl) ?_
  refine v_aload_n hX 1 rfl (atL dAX6_cut_0 4 rfl) ?_
  refine v_iload hX 5 rfl (atL dAX6_cut_0 5 rfl) ?_
  refine v_callVX hX (As := [.int (iI (p3))]) (rest := []) (c_X6_slotAt (xl X) hst w σ hk0 p3 hp3) lk_X6_92 hk0 (fun _ => rfl) rfl rfl rfl (by rw [hR]; exact ⟨Nat.le_of_ble_eq_true rfl, Nat.le_of_ble_eq_true rfl⟩) (by rw [hR]; exact ⟨Nat.le_of_ble_eq_true rfl, Nat.le_of_ble_eq_true rfl⟩) rfl (Nat.le_of_ble_eq_true rfl) (atL dAX6_cut_0 6 rfl) (fun E hE => hx E (Or.inl ⟨hE.1, by unfold f_cut; exact if_pos (fun q => hE.2 (by omega))⟩) _ (Nat.le_of_ble_eq_true rfl) (Nat.le_of_ble_eq_true rfl)) (fun r2 z2 g2 => ?_)
  obtain ⟨sp3, hsp3, hsp32, ga2, gb2⟩ := g2
  rw [gb2]
  subst ga2
  have hrsp3 := hS.1 sp3 (by omega)
  obtain ⟨lsp3, hlsp3⟩ : ∃ q, (A.1 sp3).length = q := ⟨_, rfl⟩
  have hqsp3 : lsp3 ≤ 256 := by rw [← hlsp3]; exact hS.sl hsp32
  have hvsp3 : w.2 1 sp3 := hcl 11 0 (hH 11 0 (by simp [mn, tp])) (1, sp3) (by simp [mn]; omega)
  have htsp3 : p3.toNat = sp3 := by omega
  show V X _ w _ _ σ [.ref (w.1 1 sp3)]
  refine v_astore hX (lv' := [(6, .ref (w.1 1 sp3)), (5, .ref (w.1 1 sp0)), (0, .ref (w.1 0 0)), (1, .int (iI (p0))), (2, .int (iI (p1))), (3, .int (iI (p2))), (4, .int (iI (p3)))]) (Nat.le_of_ble_eq_true rfl) rfl (atL dAX6_cut_0 7 rfl) ?_
  refine v_iload_n hX 4 rfl (atL dAX6_cut_0 8 rfl) ?_
  refine v_if_lt hX ⟨by omega, by omega⟩ (tgt := 43) (atL dAX6_cut_0 9 rfl) (by decide) (fun h16 => ?_) (fun h16 => ?_)
  · exact v_throwS hX hst wd_317 xi_A (List.mem_of_getElem? (i := 2) rfl) xg_A xl_A xn_A (by decide +kernel) (atL dAX6_cut_0 22 rfl) (atL dAX6_cut_0 23 rfl) (atL dAX6_cut_0 24 rfl) (atL dAX6_cut_0 25 rfl) (atL dAX6_cut_0 26 rfl) (by rw [hR]; exact ⟨Nat.le_of_ble_eq_true rfl, Nat.le_of_ble_eq_true rfl⟩) (by rw [hR]; exact ⟨Nat.le_of_ble_eq_true rfl, Nat.le_of_ble_eq_true rfl⟩) (hx _ (Or.inr ⟨rfl, by unfold f_cut; simp only [htsp0]; rw [if_neg (by omega), if_pos (by omega)]⟩) _ (Nat.le_of_ble_eq_true rfl) (Nat.le_of_ble_eq_true rfl))
  · refine v_iload_n hX 5 rfl (atL dAX6_cut_0 10 rfl) ?_
    refine v_if_lt hX ⟨by omega, by omega⟩ (tgt := 43) (atL dAX6_cut_0 11 rfl) (by decide) (fun h20 => ?_) (fun h20 => ?_)
    · exact v_throwS hX hst wd_317 xi_A (List.mem_of_getElem? (i := 2) rfl) xg_A xl_A xn_A (by decide +kernel) (atL dAX6_cut_0 22 rfl) (atL dAX6_cut_0 23 rfl) (atL dAX6_cut_0 24 rfl) (atL dAX6_cut_0 25 rfl) (atL dAX6_cut_0 26 rfl) (by rw [hR]; exact ⟨Nat.le_of_ble_eq_true rfl, Nat.le_of_ble_eq_true rfl⟩) (by rw [hR]; exact ⟨Nat.le_of_ble_eq_true rfl, Nat.le_of_ble_eq_true rfl⟩) (hx _ (Or.inr ⟨rfl, by unfold f_cut; simp only [htsp0]; rw [if_neg (by omega), if_pos (by omega)]⟩) _ (Nat.le_of_ble_eq_true rfl) (Nat.le_of_ble_eq_true rfl))
    · refine v_iload_n hX 4 rfl (atL dAX6_cut_0 12 rfl) ?_
      refine v_aload hX 1 rfl (atL dAX6_cut_0 13 rfl) ?_
      refine gf_X6_86 hX (v := ((lsp0 : Nat) : Int)) ((hrsp0.len.trans (by rw [hlsp0]))) hvsp0 (atL dAX6_cut_0 14 rfl) ?_
      refine v_icmp_gt hX ⟨by omega, by omega⟩ ⟨by omega, by omega⟩ (tgt := 43) (atL dAX6_cut_0 15 rfl) (by decide) (fun h29 => ?_) (fun h29 => ?_)
      · exact v_throwS hX hst wd_317 xi_A (List.mem_of_getElem? (i := 2) rfl) xg_A xl_A xn_A (by decide +kernel) (atL dAX6_cut_0 22 rfl) (atL dAX6_cut_0 23 rfl) (atL dAX6_cut_0 24 rfl) (atL dAX6_cut_0 25 rfl) (atL dAX6_cut_0 26 rfl) (by rw [hR]; exact ⟨Nat.le_of_ble_eq_true rfl, Nat.le_of_ble_eq_true rfl⟩) (by rw [hR]; exact ⟨Nat.le_of_ble_eq_true rfl, Nat.le_of_ble_eq_true rfl⟩) (hx _ (Or.inr ⟨rfl, by unfold f_cut; simp only [htsp0]; rw [if_neg (by omega), if_pos (by omega)]⟩) _ (Nat.le_of_ble_eq_true rfl) (Nat.le_of_ble_eq_true rfl))
      · refine v_iload_n hX 5 rfl (atL dAX6_cut_0 16 rfl) ?_
        refine v_aload hX 1 rfl (atL dAX6_cut_0 17 rfl) ?_
        refine gf_X6_86 hX (v := ((lsp0 : Nat) : Int)) ((hrsp0.len.trans (by rw [hlsp0]))) hvsp0 (atL dAX6_cut_0 18 rfl) ?_
        refine v_iload_n hX 4 rfl (atL dAX6_cut_0 19 rfl) ?_
        refine v_isub hX (iI_sub _ _) (atL dAX6_cut_0 20 rfl) ?_
        refine v_icmp_le hX ⟨by omega, by omega⟩ ⟨by omega, by omega⟩ (tgt := 53) (atL dAX6_cut_0 21 rfl) (by decide) (fun h40 => ?_) (fun h40 => ?_)
        · obtain ⟨i1, rfl⟩ : ∃ q : Nat, p1 = (q : Int) := ⟨p1.toNat, by omega⟩
          refine v_aload_n hX 2 rfl (atL dAX6_cut_0 27 rfl) ?_
          obtain ⟨i2, rfl⟩ : ∃ q : Nat, p2 = (q : Int) := ⟨p2.toNat, by omega⟩
          refine gf_X6_55 hX hk0 (atL dAX6_cut_0 28 rfl) ?_
          refine v_aload hX 1 rfl (atL dAX6_cut_0 29 rfl) ?_
          refine v_iload_n hX 4 rfl (atL dAX6_cut_0 30 rfl) ?_
          refine v_iload_n hX 5 rfl (atL dAX6_cut_0 31 rfl) ?_
          refine v_callV hX (As := [.ref (w.1 1 sp0), .int (iI ((i1 : Int))), .int (iI ((i2 : Int)))]) (rest := []) (c_X4_takePart (xl X) w σ 25 (hH 1 25 (by simp [mn, tp])) (hA 25) sp0 hvsp0 (hA sp0) (by omega) i1 i2 (by rw [hrsp0.2, hlsp0]; omega) (by show _ ≤ 256; omega)) lk_X6_103 (hH 1 25 (by simp [mn, tp])) (fun _ => rfl) rfl rfl rfl (by rw [hR]; exact ⟨Nat.le_of_ble_eq_true rfl, Nat.le_of_ble_eq_true rfl⟩) (by rw [hR]; exact ⟨Nat.le_of_ble_eq_true rfl, Nat.le_of_ble_eq_true rfl⟩) rfl (Nat.le_of_ble_eq_true rfl) (atL dAX6_cut_0 32 rfl) (fun _ s3 e3 => ?_)
          rw [hrsp0.2] at e3
          have hl3 : (((A.1 sp0).drop i1).take i2).length = i2 := by rw [List.length_take, List.length_drop, hlsp0]; omega
          obtain ⟨hr3, hf3⟩ := RW_of (M := ((A.1 sp0).drop i1).take i2) (hA 25) e3 (by rw [hl3]; show _ ≤ 256; omega) (hrsp0.by.drop.take)
          have hA3 := hA.one hr3 hf3 (by simp)
          have hD3 := hD.fr hf3 (by simp)
          have hr3_sp0 := hrsp0.fr hf3 (by simp <;> omega) (by simp <;> omega)
          have hr3_sp3 := hrsp3.fr hf3 (by simp <;> omega) (by simp <;> omega)
          have hc3_400 := hf3 4 0 (by simp <;> omega)
          have hF3 := (FH.rf : FH sp3 σ σ).tr hf3 (by simp [Hk] <;> omega)
          show V X _ w _ _ s3 []
          refine v_aload hX 0 rfl (atL dAX6_cut_0 33 rfl) ?_
          refine v_aload_n hX 2 rfl (atL dAX6_cut_0 34 rfl) ?_
          refine gf_X6_55 hX hk0 (atL dAX6_cut_0 35 rfl) ?_
          refine v_callV hX (As := [.ref (w.1 1 25)]) (rest := []) (c_X4_take (xl X) w s3 sp3 hvsp3 (hA3 sp3) 25 (hH 1 25 (by simp [mn, tp])) (hA3 25) (by omega) (by rw [hr3.2, hl3]; rw [rcap_s (by omega)]; omega)) lk_X6_117 hvsp3 (fun _ => rfl) rfl rfl rfl (by rw [hR]; exact ⟨Nat.le_of_ble_eq_true rfl, Nat.le_of_ble_eq_true rfl⟩) (by rw [hR]; exact ⟨Nat.le_of_ble_eq_true rfl, Nat.le_of_ble_eq_true rfl⟩) rfl (Nat.le_of_ble_eq_true rfl) (atL dAX6_cut_0 36 rfl) (fun _ s4 e4 => ?_)
          rw [hr3.2] at e4
          have hl4 : (((A.1 sp0).drop i1).take i2).length = i2 := by rw [hl3]
          obtain ⟨hr4, hf4⟩ := RW_of (M := ((A.1 sp0).drop i1).take i2) (hA3 sp3) e4 (by rw [hl4]; rw [rcap_s (by omega)]; omega) (hr3.by)
          have hA4 := hA3.one hr4 hf4 (by simp)
          have hD4 := hD3.fr hf4 (by simp)
          have hr4_25 := hr3.fr hf4 (by simp <;> omega) (by simp <;> omega)
          have hc4_400 := hf4 4 0 (by simp <;> omega)
          have hF4 := hF3.tr hf4 (by simp [Hk] <;> omega)
          show V X _ w _ _ s4 []
          refine v_iload_n hX 5 rfl (atL dAX6_cut_0 37 rfl) ?_
          exact v_iret hX (atL dAX6_cut_0 38 rfl) (hret _ _ ⟨A.put sp3 (((A.1 sp0).drop i1).take i2), by unfold f_cut; simp only [htsp0, htsp3, Int.toNat_natCast]; rw [if_neg (by omega), if_neg (by omega)], hS.put hF4 hA4 hD4 hr4, hF4.fm⟩ _ (Nat.le_of_ble_eq_true rfl) (Nat.le_of_ble_eq_true rfl))
        · exact v_throwS hX hst wd_317 xi_A (List.mem_of_getElem? (i := 2) rfl) xg_A xl_A xn_A (by decide +kernel) (atL dAX6_cut_0 22 rfl) (atL dAX6_cut_0 23 rfl) (atL dAX6_cut_0 24 rfl) (atL dAX6_cut_0 25 rfl) (atL dAX6_cut_0 26 rfl) (by rw [hR]; exact ⟨Nat.le_of_ble_eq_true rfl, Nat.le_of_ble_eq_true rfl⟩) (by rw [hR]; exact ⟨Nat.le_of_ble_eq_true rfl, Nat.le_of_ble_eq_true rfl⟩) (hx _ (Or.inr ⟨rfl, by unfold f_cut; simp only [htsp0]; rw [if_neg (by omega), if_pos (by omega)]⟩) _ (Nat.le_of_ble_eq_true rfl) (Nat.le_of_ble_eq_true rfl))

set_option maxHeartbeats 1000000 in
set_option maxRecDepth 100000 in
theorem c_X6_join (l : Launch) (hst : l.stackTraces = false) (w : Wl) (σ : St) (hk0 : w.2 0 0) (A : Ab) (hS : HS σ A) (p0 : Int) (hp0 : rI p0) (p1 : Int) (hp1 : rI p1) (p2 : Int) (hp2 : rI p2) : Cx l yX6_join cX6_join 7 (Option.some Jvm.ClassFile.FieldType.int) 7 103 3 18 wI [.ref (w.1 0 0), .int (iI (p0)), .int (iI (p1)), .int (iI (p2))] w σ (fun a σ' => ∃ A', f_join A p0 p1 p2 = (0, a, A') ∧ HS σ' A' ∧ FM σ σ') (Xc (f_join A p0 p1 p2) A) := by
  refine Cx.of (own := RX6) (lv := [(0, .ref (w.1 0 0)), (1, .int (iI (p0))), (2, .int (iI (p1))), (3, .int (iI (p2)))]) (by decide +kernel) rfl (Nat.le_of_ble_eq_true rfl) rfl (fun X hX hxl hR hcl hret hx => ?_)
  subst hxl
  have hH : ∀ c q, (c, q) ∈ mn σ 0 0 → w.2 c q := fun c q h => hcl 0 0 hk0 (c, q) h
  have hp0a := hp0.1
  have hp0b := hp0.2
  have hp1a := hp1.1
  have hp1b := hp1.2
  have hp2a := hp2.1
  have hp2b := hp2.2
  have hA := hS.2.1
  have hD := hS.2.2.1
  refine v_aload_n hX 0 rfl (atL dAX6_join_0 0 rfl) ?_
  refine v_iload_n hX 1 rfl (atL dAX6_join_0 1 rfl) ?_
  refine v_callVX hX (As := [.int (iI (p0))]) (rest := []) (c_X6_slotAt (xl X) hst w σ hk0 p0 hp0) lk_X6_92 hk0 (fun _ => rfl) rfl rfl rfl (by rw [hR]; exact ⟨Nat.le_of_ble_eq_true rfl, Nat.le_of_ble_eq_true rfl⟩) (by rw [hR]; exact ⟨Nat.le_of_ble_eq_true rfl, Nat.le_of_ble_eq_true rfl⟩) rfl (Nat.le_of_ble_eq_true rfl) (atL dAX6_join_0 2 rfl) (fun E hE => hx E (Or.inl ⟨hE.1, by unfold f_join; exact if_pos (fun q => hE.2 (by omega))⟩) _ (Nat.le_of_ble_eq_true rfl) (Nat.le_of_ble_eq_true rfl)) (fun r1 z1 g1 => ?_)
  obtain ⟨sp0, hsp0, hsp02, ga1, gb1⟩ := g1
  rw [gb1]
  subst ga1
  have hrsp0 := hS.1 sp0 (by omega)
  obtain ⟨lsp0, hlsp0⟩ : ∃ q, (A.1 sp0).length = q := ⟨_, rfl⟩
  have hqsp0 : lsp0 ≤ 256 := by rw [← hlsp0]; exact hS.sl hsp02
  have hvsp0 : w.2 1 sp0 := hcl 11 0 (hH 11 0 (by simp [mn, tp])) (1, sp0) (by simp [mn]; omega)
  have htsp0 : p0.toNat = sp0 := by omega
  show V X _ w _ _ σ [.ref (w.1 1 sp0)]
  refine v_astore hX (lv' := [(4, .ref (w.1 1 sp0)), (0, .ref (w.1 0 0)), (1, .int (iI (p0))), (2, .int (iI (p1))), (3, .int (iI (p2)))]) (Nat.le_of_ble_eq_true rfl) rfl (atL dAX6_join_0 3 rfl) ?_
  refine v_aload_n hX 1 rfl (atL dAX6_join_0 4 rfl) ?_
  refine v_iload_n hX 3 rfl (atL dAX6_join_0 5 rfl) ?_
  refine v_callVX hX (As := [.int (iI (p1))]) (rest := []) (c_X6_slotAt (xl X) hst w σ hk0 p1 hp1) lk_X6_92 hk0 (fun _ => rfl) rfl rfl rfl (by rw [hR]; exact ⟨Nat.le_of_ble_eq_true rfl, Nat.le_of_ble_eq_true rfl⟩) (by rw [hR]; exact ⟨Nat.le_of_ble_eq_true rfl, Nat.le_of_ble_eq_true rfl⟩) rfl (Nat.le_of_ble_eq_true rfl) (atL dAX6_join_0 6 rfl) (fun E hE => hx E (Or.inl ⟨hE.1, by unfold f_join; exact if_pos (fun q => hE.2 (by omega))⟩) _ (Nat.le_of_ble_eq_true rfl) (Nat.le_of_ble_eq_true rfl)) (fun r2 z2 g2 => ?_)
  obtain ⟨sp1, hsp1, hsp12, ga2, gb2⟩ := g2
  rw [gb2]
  subst ga2
  have hrsp1 := hS.1 sp1 (by omega)
  obtain ⟨lsp1, hlsp1⟩ : ∃ q, (A.1 sp1).length = q := ⟨_, rfl⟩
  have hqsp1 : lsp1 ≤ 256 := by rw [← hlsp1]; exact hS.sl hsp12
  have hvsp1 : w.2 1 sp1 := hcl 11 0 (hH 11 0 (by simp [mn, tp])) (1, sp1) (by simp [mn]; omega)
  have htsp1 : p1.toNat = sp1 := by omega
  show V X _ w _ _ σ [.ref (w.1 1 sp1)]
  refine v_astore hX (lv' := [(5, .ref (w.1 1 sp1)), (4, .ref (w.1 1 sp0)), (0, .ref (w.1 0 0)), (1, .int (iI (p0))), (2, .int (iI (p1))), (3, .int (iI (p2)))]) (Nat.le_of_ble_eq_true rfl) rfl (atL dAX6_join_0 7 rfl) ?_
  refine v_aload_n hX 2 rfl (atL dAX6_join_0 8 rfl) ?_
  refine v_iload_n hX 5 rfl (atL dAX6_join_0 9 rfl) ?_
  refine v_callVX hX (As := [.int (iI (p2))]) (rest := []) (c_X6_slotAt (xl X) hst w σ hk0 p2 hp2) lk_X6_92 hk0 (fun _ => rfl) rfl rfl rfl (by rw [hR]; exact ⟨Nat.le_of_ble_eq_true rfl, Nat.le_of_ble_eq_true rfl⟩) (by rw [hR]; exact ⟨Nat.le_of_ble_eq_true rfl, Nat.le_of_ble_eq_true rfl⟩) rfl (Nat.le_of_ble_eq_true rfl) (atL dAX6_join_0 10 rfl) (fun E hE => hx E (Or.inl ⟨hE.1, by unfold f_join; exact if_pos (fun q => hE.2 (by omega))⟩) _ (Nat.le_of_ble_eq_true rfl) (Nat.le_of_ble_eq_true rfl)) (fun r3 z3 g3 => ?_)
  obtain ⟨sp2, hsp2, hsp22, ga3, gb3⟩ := g3
  rw [gb3]
  subst ga3
  have hrsp2 := hS.1 sp2 (by omega)
  obtain ⟨lsp2, hlsp2⟩ : ∃ q, (A.1 sp2).length = q := ⟨_, rfl⟩
  have hqsp2 : lsp2 ≤ 256 := by rw [← hlsp2]; exact hS.sl hsp22
  have hvsp2 : w.2 1 sp2 := hcl 11 0 (hH 11 0 (by simp [mn, tp])) (1, sp2) (by simp [mn]; omega)
  have htsp2 : p2.toNat = sp2 := by omega
  show V X _ w _ _ σ [.ref (w.1 1 sp2)]
  refine v_astore hX (lv' := [(6, .ref (w.1 1 sp2)), (5, .ref (w.1 1 sp1)), (4, .ref (w.1 1 sp0)), (0, .ref (w.1 0 0)), (1, .int (iI (p0))), (2, .int (iI (p1))), (3, .int (iI (p2)))]) (Nat.le_of_ble_eq_true rfl) rfl (atL dAX6_join_0 11 rfl) ?_
  refine v_aload hX 2 rfl (atL dAX6_join_0 12 rfl) ?_
  refine gf_X6_86 hX (v := ((lsp0 : Nat) : Int)) ((hrsp0.len.trans (by rw [hlsp0]))) hvsp0 (atL dAX6_join_0 13 rfl) ?_
  refine v_aload hX 1 rfl (atL dAX6_join_0 14 rfl) ?_
  refine gf_X6_86 hX (v := ((lsp1 : Nat) : Int)) ((hrsp1.len.trans (by rw [hlsp1]))) hvsp1 (atL dAX6_join_0 15 rfl) ?_
  refine v_iadd hX (iI_add _ _) (atL dAX6_join_0 16 rfl) ?_
  rw [show ((((lsp0 : Nat) : Int)) + (((lsp1 : Nat) : Int))) = ((lsp0 + lsp1 : Nat) : Int) from (by omega)]
  refine v_sipush hX (by decide +kernel) (atL dAX6_join_0 17 rfl) ?_
  refine v_icmp_le hX ⟨by omega, by omega⟩ ⟨by omega, by omega⟩ (tgt := 41) (atL dAX6_join_0 18 rfl) (by decide) (fun h35 => ?_) (fun h35 => ?_)
  · refine v_aload_n hX 3 rfl (atL dAX6_join_0 21 rfl) ?_
    refine gf_X6_55 hX hk0 (atL dAX6_join_0 22 rfl) ?_
    refine v_aload hX 2 rfl (atL dAX6_join_0 23 rfl) ?_
    refine v_callV hX (As := [.ref (w.1 1 sp0)]) (rest := []) (c_X4_take (xl X) w σ 25 (hH 1 25 (by simp [mn, tp])) (hA 25) sp0 hvsp0 (hA sp0) (by omega) (by rw [hrsp0.2, hlsp0]; show _ ≤ 256; omega)) lk_X6_117 (hH 1 25 (by simp [mn, tp])) (fun _ => rfl) rfl rfl rfl (by rw [hR]; exact ⟨Nat.le_of_ble_eq_true rfl, Nat.le_of_ble_eq_true rfl⟩) (by rw [hR]; exact ⟨Nat.le_of_ble_eq_true rfl, Nat.le_of_ble_eq_true rfl⟩) rfl (Nat.le_of_ble_eq_true rfl) (atL dAX6_join_0 24 rfl) (fun _ s4 e4 => ?_)
    rw [hrsp0.2] at e4
    have hl4 : (A.1 sp0).length = lsp0 := by rw [hlsp0]
    obtain ⟨hr4, hf4⟩ := RW_of (M := A.1 sp0) (hA 25) e4 (by rw [hl4]; show _ ≤ 256; omega) (hrsp0.by)
    have hA4 := hA.one hr4 hf4 (by simp)
    have hD4 := hD.fr hf4 (by simp)
    have hr4_sp0 := hrsp0.fr hf4 (by simp <;> omega) (by simp <;> omega)
    have hr4_sp1 := hrsp1.fr hf4 (by simp <;> omega) (by simp <;> omega)
    have hr4_sp2 := hrsp2.fr hf4 (by simp <;> omega) (by simp <;> omega)
    have hc4_400 := hf4 4 0 (by simp <;> omega)
    have hF4 := (FH.rf : FH sp2 σ σ).tr hf4 (by simp [Hk] <;> omega)
    show V X _ w _ _ s4 []
    refine v_aload_n hX 3 rfl (atL dAX6_join_0 25 rfl) ?_
    refine gf_X6_55 hX hk0 (atL dAX6_join_0 26 rfl) ?_
    refine v_aload hX 1 rfl (atL dAX6_join_0 27 rfl) ?_
    refine v_callV hX (As := [.ref (w.1 1 sp1)]) (rest := []) (c_X4_addRow (xl X) w s4 25 (hH 1 25 (by simp [mn, tp])) (hA4 25) sp1 hvsp1 (hA4 sp1) (by omega) (by rw [hr4.2, hr4_sp1.2, hl4, hlsp1]; show _ ≤ 256; omega)) lk_X6_121 (hH 1 25 (by simp [mn, tp])) (fun _ => rfl) rfl rfl rfl (by rw [hR]; exact ⟨Nat.le_of_ble_eq_true rfl, Nat.le_of_ble_eq_true rfl⟩) (by rw [hR]; exact ⟨Nat.le_of_ble_eq_true rfl, Nat.le_of_ble_eq_true rfl⟩) rfl (Nat.le_of_ble_eq_true rfl) (atL dAX6_join_0 28 rfl) (fun _ s5 e5 => ?_)
    rw [hr4.2, hr4_sp1.2] at e5
    have hl5 : (A.1 sp0 ++ (A.1 sp1)).length = lsp0 + lsp1 := by rw [List.length_append, hl4, hlsp1]
    obtain ⟨hr5, hf5⟩ := RW_of (M := A.1 sp0 ++ (A.1 sp1)) (hA4 25) e5 (by rw [hl5]; show _ ≤ 256; omega) (hr4.by.app hr4_sp1.by)
    have hA5 := hA4.one hr5 hf5 (by simp)
    have hD5 := hD4.fr hf5 (by simp)
    have hr5_sp0 := hr4_sp0.fr hf5 (by simp <;> omega) (by simp <;> omega)
    have hr5_sp1 := hr4_sp1.fr hf5 (by simp <;> omega) (by simp <;> omega)
    have hr5_sp2 := hr4_sp2.fr hf5 (by simp <;> omega) (by simp <;> omega)
    have hc5_400 := hf5 4 0 (by simp <;> omega)
    have hF5 := hF4.tr hf5 (by simp [Hk] <;> omega)
    show V X _ w _ _ s5 []
    refine v_aload hX 0 rfl (atL dAX6_join_0 29 rfl) ?_
    refine v_aload_n hX 3 rfl (atL dAX6_join_0 30 rfl) ?_
    refine gf_X6_55 hX hk0 (atL dAX6_join_0 31 rfl) ?_
    refine v_callV hX (As := [.ref (w.1 1 25)]) (rest := []) (c_X4_take (xl X) w s5 sp2 hvsp2 (hA5 sp2) 25 (hH 1 25 (by simp [mn, tp])) (hA5 25) (by omega) (by rw [hr5.2, hl5]; rw [rcap_s (by omega)]; omega)) lk_X6_117 hvsp2 (fun _ => rfl) rfl rfl rfl (by rw [hR]; exact ⟨Nat.le_of_ble_eq_true rfl, Nat.le_of_ble_eq_true rfl⟩) (by rw [hR]; exact ⟨Nat.le_of_ble_eq_true rfl, Nat.le_of_ble_eq_true rfl⟩) rfl (Nat.le_of_ble_eq_true rfl) (atL dAX6_join_0 32 rfl) (fun _ s6 e6 => ?_)
    rw [hr5.2] at e6
    have hl6 : (A.1 sp0 ++ (A.1 sp1)).length = lsp0 + lsp1 := by rw [hl5]
    obtain ⟨hr6, hf6⟩ := RW_of (M := A.1 sp0 ++ (A.1 sp1)) (hA5 sp2) e6 (by rw [hl6]; rw [rcap_s (by omega)]; omega) (hr5.by)
    have hA6 := hA5.one hr6 hf6 (by simp)
    have hD6 := hD5.fr hf6 (by simp)
    have hr6_25 := hr5.fr hf6 (by simp <;> omega) (by simp <;> omega)
    have hc6_400 := hf6 4 0 (by simp <;> omega)
    have hF6 := hF5.tr hf6 (by simp [Hk] <;> omega)
    show V X _ w _ _ s6 []
    refine v_aload hX 0 rfl (atL dAX6_join_0 33 rfl) ?_
    refine gf_X6_86 hX (v := ((lsp0 + lsp1 : Nat) : Int)) ((hr6.len.trans (by rw [hl6]))) hvsp2 (atL dAX6_join_0 34 rfl) ?_
    exact v_iret hX (atL dAX6_join_0 35 rfl) (hret _ _ ⟨A.put sp2 (A.1 sp0 ++ (A.1 sp1)), by unfold f_join; simp only [htsp0, htsp1, htsp2]; rw [if_neg (by omega), if_neg (by omega), hlsp0, hlsp1], hS.put hF6 hA6 hD6 hr6, hF6.fm⟩ _ (Nat.le_of_ble_eq_true rfl) (Nat.le_of_ble_eq_true rfl))
  · refine v_bipush hX (by decide +kernel) (atL dAX6_join_0 19 rfl) ?_
    exact v_iret hX (atL dAX6_join_0 20 rfl) (hret _ _ ⟨A, by unfold f_join; simp only [htsp0, htsp1, htsp2]; rw [if_neg (by omega), if_pos (by omega)], hS, FM.rf⟩ _ (Nat.le_of_ble_eq_true rfl) (Nat.le_of_ble_eq_true rfl))

set_option maxHeartbeats 1000000 in
set_option maxRecDepth 100000 in
theorem c_X6_change (l : Launch) (hst : l.stackTraces = false) (w : Wl) (σ : St) (hk0 : w.2 0 0) (A : Ab) (hS : HS σ A) (p0 : Int) (hp0 : rI p0) (p1 : Int) (hp1 : rI p1) (p2 : Int) (hp2 : rI p2) : Cx l yX6_change cX6_change 6 (Option.some Jvm.ClassFile.FieldType.int) 7 103 2 12 wI [.ref (w.1 0 0), .int (iI (p0)), .int (iI (p1)), .int (iI (p2))] w σ (fun a σ' => ∃ A', f_change A p0 p1 p2 = (0, a, A') ∧ HS σ' A' ∧ FM σ σ') (Xc (f_change A p0 p1 p2) A) := by
  refine Cx.of (own := RX6) (lv := [(0, .ref (w.1 0 0)), (1, .int (iI (p0))), (2, .int (iI (p1))), (3, .int (iI (p2)))]) (by decide +kernel) rfl (Nat.le_of_ble_eq_true rfl) rfl (fun X hX hxl hR hcl hret hx => ?_)
  subst hxl
  have hH : ∀ c q, (c, q) ∈ mn σ 0 0 → w.2 c q := fun c q h => hcl 0 0 hk0 (c, q) h
  have hp0a := hp0.1
  have hp0b := hp0.2
  have hp1a := hp1.1
  have hp1b := hp1.2
  have hp2a := hp2.1
  have hp2b := hp2.2
  have hA := hS.2.1
  have hD := hS.2.2.1
  refine v_aload_n hX 0 rfl (atL dAX6_change_0 0 rfl) ?_
  refine v_iload_n hX 1 rfl (atL dAX6_change_0 1 rfl) ?_
  refine v_callVX hX (As := [.int (iI (p0))]) (rest := []) (c_X6_slotAt (xl X) hst w σ hk0 p0 hp0) lk_X6_92 hk0 (fun _ => rfl) rfl rfl rfl (by rw [hR]; exact ⟨Nat.le_of_ble_eq_true rfl, Nat.le_of_ble_eq_true rfl⟩) (by rw [hR]; exact ⟨Nat.le_of_ble_eq_true rfl, Nat.le_of_ble_eq_true rfl⟩) rfl (Nat.le_of_ble_eq_true rfl) (atL dAX6_change_0 2 rfl) (fun E hE => hx E (Or.inl ⟨hE.1, by unfold f_change; exact if_pos (fun q => hE.2 (by omega))⟩) _ (Nat.le_of_ble_eq_true rfl) (Nat.le_of_ble_eq_true rfl)) (fun r1 z1 g1 => ?_)
  obtain ⟨sp0, hsp0, hsp02, ga1, gb1⟩ := g1
  rw [gb1]
  subst ga1
  have hrsp0 := hS.1 sp0 (by omega)
  obtain ⟨lsp0, hlsp0⟩ : ∃ q, (A.1 sp0).length = q := ⟨_, rfl⟩
  have hqsp0 : lsp0 ≤ 256 := by rw [← hlsp0]; exact hS.sl hsp02
  have hvsp0 : w.2 1 sp0 := hcl 11 0 (hH 11 0 (by simp [mn, tp])) (1, sp0) (by simp [mn]; omega)
  have htsp0 : p0.toNat = sp0 := by omega
  show V X _ w _ _ σ [.ref (w.1 1 sp0)]
  refine v_astore hX (lv' := [(4, .ref (w.1 1 sp0)), (0, .ref (w.1 0 0)), (1, .int (iI (p0))), (2, .int (iI (p1))), (3, .int (iI (p2)))]) (Nat.le_of_ble_eq_true rfl) rfl (atL dAX6_change_0 3 rfl) ?_
  refine v_aload hX 0 rfl (atL dAX6_change_0 4 rfl) ?_
  refine v_iload_n hX 3 rfl (atL dAX6_change_0 5 rfl) ?_
  refine v_callV hX (As := [.int (iI (p1))]) (rest := []) (c_X4_has (xl X) w σ sp0 hvsp0 (hA sp0) p1 ⟨by omega, by omega⟩) lk_X6_107 hvsp0 (fun _ => rfl) rfl rfl rfl (by rw [hR]; exact ⟨Nat.le_of_ble_eq_true rfl, Nat.le_of_ble_eq_true rfl⟩) (by rw [hR]; exact ⟨Nat.le_of_ble_eq_true rfl, Nat.le_of_ble_eq_true rfl⟩) rfl (Nat.le_of_ble_eq_true rfl) (atL dAX6_change_0 6 rfl) (fun r2 z2 g2 => ?_)
  obtain ⟨ga2, gb2⟩ := g2
  rw [gb2]
  rw [hrsp0.2] at ga2
  have gc2 : (r2 = 1 ∧ (0 ≤ p1 ∧ p1 < ((lsp0 : Nat) : Int))) ∨ (r2 = 0 ∧ ¬ (0 ≤ p1 ∧ p1 < ((lsp0 : Nat) : Int))) := by rw [ga2, hlsp0]; split <;> simp_all
  show V X _ w _ _ σ [.int (iI (r2))]
  refine v_if_ne hX ⟨by omega, by omega⟩ (tgt := 26) (atL dAX6_change_0 7 rfl) (by decide) (fun h13 => ?_) (fun h13 => ?_)
  · refine v_aload hX 0 rfl (atL dAX6_change_0 13 rfl) ?_
    refine v_iload_n hX 3 rfl (atL dAX6_change_0 14 rfl) ?_
    refine v_callV hX (As := [.int (iI (p1))]) (rest := []) (c_X4_at (xl X) w σ sp0 hvsp0 (hA sp0) p1 ⟨by omega, by omega⟩) lk_X6_111 hvsp0 (fun _ => rfl) rfl rfl rfl (by rw [hR]; exact ⟨Nat.le_of_ble_eq_true rfl, Nat.le_of_ble_eq_true rfl⟩) (by rw [hR]; exact ⟨Nat.le_of_ble_eq_true rfl, Nat.le_of_ble_eq_true rfl⟩) rfl (Nat.le_of_ble_eq_true rfl) (atL dAX6_change_0 15 rfl) (fun r3 z3 g3 => ?_)
    obtain ⟨ga3, gb3⟩ := g3
    rw [gb3]
    rw [hrsp0.2] at ga3
    rw [if_pos (by omega), show (p1 : Int).toNat = (p1).toNat by omega] at ga3
    subst ga3
    have hb3 := hrsp0.by.get ((p1).toNat)
    show V X _ w _ _ σ [.int (iI ((((A.1 sp0).getD ((p1).toNat) 0 : Nat) : Int)))]
    refine v_istore hX (lv' := [(5, .int (iI ((((A.1 sp0).getD ((p1).toNat) 0 : Nat) : Int)))), (4, .ref (w.1 1 sp0)), (0, .ref (w.1 0 0)), (1, .int (iI (p0))), (2, .int (iI (p1))), (3, .int (iI (p2)))]) (Nat.le_of_ble_eq_true rfl) rfl (atL dAX6_change_0 16 rfl) ?_
    refine v_aload hX 1 rfl (atL dAX6_change_0 17 rfl) ?_
    refine v_iload_n hX 4 rfl (atL dAX6_change_0 18 rfl) ?_
    refine v_iload_n hX 5 rfl (atL dAX6_change_0 19 rfl) ?_
    refine v_callV hX (As := [.int (iI (p1)), .int (iI (p2))]) (rest := []) (c_X4_put (xl X) w σ sp0 hvsp0 (hA sp0) p1 p2 ⟨by omega, by omega⟩) lk_X6_126 hvsp0 (fun _ => rfl) rfl rfl rfl (by rw [hR]; exact ⟨Nat.le_of_ble_eq_true rfl, Nat.le_of_ble_eq_true rfl⟩) (by rw [hR]; exact ⟨Nat.le_of_ble_eq_true rfl, Nat.le_of_ble_eq_true rfl⟩) rfl (Nat.le_of_ble_eq_true rfl) (atL dAX6_change_0 20 rfl) (fun _ s4 e4 => ?_)
    rw [hrsp0.2, if_pos ⟨by omega, by rw [hlsp0]; omega⟩, show ((p2 : Int) % 256).toNat = (p2 % 256).toNat from rfl, show (p1 : Int).toNat = ((p1).toNat) from rfl] at e4
    have hl4 : ((A.1 sp0).set ((p1).toNat) ((p2 % 256).toNat)).length = lsp0 := by rw [List.length_set, hlsp0]
    obtain ⟨hr4, hf4⟩ := RW_of (M := (A.1 sp0).set ((p1).toNat) ((p2 % 256).toNat)) (hA sp0) e4 (by rw [hl4]; rw [rcap_s (by omega)]; omega) (BY_set hrsp0.by (by omega))
    have hA4 := hA.one hr4 hf4 (by simp)
    have hD4 := hD.fr hf4 (by simp)
    have hc4_400 := hf4 4 0 (by simp <;> omega)
    have hF4 := (FH.rf : FH sp0 σ σ).tr hf4 (by simp [Hk] <;> omega)
    show V X _ w _ _ s4 []
    refine v_iload hX 0 rfl (atL dAX6_change_0 21 rfl) ?_
    exact v_iret hX (atL dAX6_change_0 22 rfl) (hret _ _ ⟨A.put sp0 ((A.1 sp0).set ((p1).toNat) ((p2 % 256).toNat)), by unfold f_change; simp only [htsp0]; rw [if_neg (by omega), if_neg (by omega)], hS.put hF4 hA4 hD4 hr4, hF4.fm⟩ _ (Nat.le_of_ble_eq_true rfl) (Nat.le_of_ble_eq_true rfl))
  · exact v_throwS hX hst wd_317 xi_A (List.mem_of_getElem? (i := 3) rfl) xg_A xl_A xn_A (by decide +kernel) (atL dAX6_change_0 8 rfl) (atL dAX6_change_0 9 rfl) (atL dAX6_change_0 10 rfl) (atL dAX6_change_0 11 rfl) (atL dAX6_change_0 12 rfl) (by rw [hR]; exact ⟨Nat.le_of_ble_eq_true rfl, Nat.le_of_ble_eq_true rfl⟩) (by rw [hR]; exact ⟨Nat.le_of_ble_eq_true rfl, Nat.le_of_ble_eq_true rfl⟩) (hx _ (Or.inr ⟨rfl, by unfold f_change; simp only [htsp0]; rw [if_neg (by omega), if_pos (by omega)]⟩) _ (Nat.le_of_ble_eq_true rfl) (Nat.le_of_ble_eq_true rfl))

set_option maxHeartbeats 1000000 in
set_option maxRecDepth 100000 in
theorem c_X6_compare (l : Launch) (hst : l.stackTraces = false) (w : Wl) (σ : St) (hk0 : w.2 0 0) (A : Ab) (hS : HS σ A) (p0 : Int) (hp0 : rI p0) (p1 : Int) (hp1 : rI p1) : Cx l yX6_compare cX6_compare 5 (Option.some Jvm.ClassFile.FieldType.int) 7 103 2 12 wI [.ref (w.1 0 0), .int (iI (p0)), .int (iI (p1))] w σ (fun a σ' => ∃ A', f_compare A p0 p1 = (0, a, A') ∧ HS σ' A' ∧ FM σ σ') (Xc (f_compare A p0 p1) A) := by
  refine Cx.of (own := RX6) (lv := [(0, .ref (w.1 0 0)), (1, .int (iI (p0))), (2, .int (iI (p1)))]) (by decide +kernel) rfl (Nat.le_of_ble_eq_true rfl) rfl (fun X hX hxl hR hcl hret hx => ?_)
  subst hxl
  have hH : ∀ c q, (c, q) ∈ mn σ 0 0 → w.2 c q := fun c q h => hcl 0 0 hk0 (c, q) h
  have hp0a := hp0.1
  have hp0b := hp0.2
  have hp1a := hp1.1
  have hp1b := hp1.2
  have hA := hS.2.1
  have hD := hS.2.2.1
  refine v_aload_n hX 0 rfl (atL dAX6_compare_0 0 rfl) ?_
  refine v_iload_n hX 1 rfl (atL dAX6_compare_0 1 rfl) ?_
  refine v_callVX hX (As := [.int (iI (p0))]) (rest := []) (c_X6_slotAt (xl X) hst w σ hk0 p0 hp0) lk_X6_92 hk0 (fun _ => rfl) rfl rfl rfl (by rw [hR]; exact ⟨Nat.le_of_ble_eq_true rfl, Nat.le_of_ble_eq_true rfl⟩) (by rw [hR]; exact ⟨Nat.le_of_ble_eq_true rfl, Nat.le_of_ble_eq_true rfl⟩) rfl (Nat.le_of_ble_eq_true rfl) (atL dAX6_compare_0 2 rfl) (fun E hE => hx E (Or.inl ⟨hE.1, by unfold f_compare; exact if_pos (fun q => hE.2 (by omega))⟩) _ (Nat.le_of_ble_eq_true rfl) (Nat.le_of_ble_eq_true rfl)) (fun r1 z1 g1 => ?_)
  obtain ⟨sp0, hsp0, hsp02, ga1, gb1⟩ := g1
  rw [gb1]
  subst ga1
  have hrsp0 := hS.1 sp0 (by omega)
  obtain ⟨lsp0, hlsp0⟩ : ∃ q, (A.1 sp0).length = q := ⟨_, rfl⟩
  have hqsp0 : lsp0 ≤ 256 := by rw [← hlsp0]; exact hS.sl hsp02
  have hvsp0 : w.2 1 sp0 := hcl 11 0 (hH 11 0 (by simp [mn, tp])) (1, sp0) (by simp [mn]; omega)
  have htsp0 : p0.toNat = sp0 := by omega
  show V X _ w _ _ σ [.ref (w.1 1 sp0)]
  refine v_astore_n hX (i := 3) rfl (lv' := [(3, .ref (w.1 1 sp0)), (0, .ref (w.1 0 0)), (1, .int (iI (p0))), (2, .int (iI (p1)))]) (Nat.le_of_ble_eq_true rfl) rfl (atL dAX6_compare_0 3 rfl) ?_
  refine v_aload_n hX 1 rfl (atL dAX6_compare_0 4 rfl) ?_
  refine v_iload_n hX 3 rfl (atL dAX6_compare_0 5 rfl) ?_
  refine v_callVX hX (As := [.int (iI (p1))]) (rest := []) (c_X6_slotAt (xl X) hst w σ hk0 p1 hp1) lk_X6_92 hk0 (fun _ => rfl) rfl rfl rfl (by rw [hR]; exact ⟨Nat.le_of_ble_eq_true rfl, Nat.le_of_ble_eq_true rfl⟩) (by rw [hR]; exact ⟨Nat.le_of_ble_eq_true rfl, Nat.le_of_ble_eq_true rfl⟩) rfl (Nat.le_of_ble_eq_true rfl) (atL dAX6_compare_0 6 rfl) (fun E hE => hx E (Or.inl ⟨hE.1, by unfold f_compare; exact if_pos (fun q => hE.2 (by omega))⟩) _ (Nat.le_of_ble_eq_true rfl) (Nat.le_of_ble_eq_true rfl)) (fun r2 z2 g2 => ?_)
  obtain ⟨sp1, hsp1, hsp12, ga2, gb2⟩ := g2
  rw [gb2]
  subst ga2
  have hrsp1 := hS.1 sp1 (by omega)
  obtain ⟨lsp1, hlsp1⟩ : ∃ q, (A.1 sp1).length = q := ⟨_, rfl⟩
  have hqsp1 : lsp1 ≤ 256 := by rw [← hlsp1]; exact hS.sl hsp12
  have hvsp1 : w.2 1 sp1 := hcl 11 0 (hH 11 0 (by simp [mn, tp])) (1, sp1) (by simp [mn]; omega)
  have htsp1 : p1.toNat = sp1 := by omega
  show V X _ w _ _ σ [.ref (w.1 1 sp1)]
  refine v_astore hX (lv' := [(4, .ref (w.1 1 sp1)), (3, .ref (w.1 1 sp0)), (0, .ref (w.1 0 0)), (1, .int (iI (p0))), (2, .int (iI (p1)))]) (Nat.le_of_ble_eq_true rfl) rfl (atL dAX6_compare_0 7 rfl) ?_
  refine v_aload_n hX 2 rfl (atL dAX6_compare_0 8 rfl) ?_
  refine gf_X6_64 hX hk0 (atL dAX6_compare_0 9 rfl) ?_
  refine v_aload_n hX 1 rfl (atL dAX6_compare_0 10 rfl) ?_
  refine v_callV hX (As := [.ref (w.1 1 sp0)]) (rest := []) (c_X5_read (xl X) w σ 0 (hH 3 0 (by simp [mn, tp])) (hD 0) sp0 hvsp0 (hA sp0) (by rw [hrsp0.2, hlsp0]; omega)) lk_X6_132 (hH 3 0 (by simp [mn, tp])) (fun _ => rfl) rfl rfl rfl (by rw [hR]; exact ⟨Nat.le_of_ble_eq_true rfl, Nat.le_of_ble_eq_true rfl⟩) (by rw [hR]; exact ⟨Nat.le_of_ble_eq_true rfl, Nat.le_of_ble_eq_true rfl⟩) rfl (Nat.le_of_ble_eq_true rfl) (atL dAX6_compare_0 11 rfl) (fun _ s3 e3 => ?_)
  obtain ⟨hw3, hf3⟩ := e3
  rw [hrsp0.2] at hw3
  have hb3 := rv_b hrsp0.by (by rw [hlsp0]; omega)
  have hA3 := hA.fr hf3 (by simp)
  have hD3 := hD.one hf3 hw3
  have hr3_sp0 := hrsp0.fr hf3 (by simp <;> omega) (by simp <;> omega)
  have hr3_sp1 := hrsp1.fr hf3 (by simp <;> omega) (by simp <;> omega)
  have hc3_400 := hf3 4 0 (by simp <;> omega)
  have hF3 := (FH.rf : FH 99 σ σ).tr hf3 (by simp [Hk] <;> omega)
  show V X _ w _ _ s3 []
  refine v_aload_n hX 2 rfl (atL dAX6_compare_0 12 rfl) ?_
  refine gf_X6_68 hX hk0 (atL dAX6_compare_0 13 rfl) ?_
  refine v_aload hX 0 rfl (atL dAX6_compare_0 14 rfl) ?_
  refine v_callV hX (As := [.ref (w.1 1 sp1)]) (rest := []) (c_X5_read (xl X) w s3 1 (hH 3 1 (by simp [mn, tp])) (hD3 1) sp1 hvsp1 (hA3 sp1) (by rw [hr3_sp1.2, hlsp1]; omega)) lk_X6_132 (hH 3 1 (by simp [mn, tp])) (fun _ => rfl) rfl rfl rfl (by rw [hR]; exact ⟨Nat.le_of_ble_eq_true rfl, Nat.le_of_ble_eq_true rfl⟩) (by rw [hR]; exact ⟨Nat.le_of_ble_eq_true rfl, Nat.le_of_ble_eq_true rfl⟩) rfl (Nat.le_of_ble_eq_true rfl) (atL dAX6_compare_0 15 rfl) (fun _ s4 e4 => ?_)
  obtain ⟨hw4, hf4⟩ := e4
  rw [hr3_sp1.2] at hw4
  have hb4 := rv_b hr3_sp1.by (by rw [hlsp1]; omega)
  have hA4 := hA3.fr hf4 (by simp)
  have hD4 := hD3.one hf4 hw4
  have hr4_sp0 := hr3_sp0.fr hf4 (by simp <;> omega) (by simp <;> omega)
  have hr4_sp1 := hr3_sp1.fr hf4 (by simp <;> omega) (by simp <;> omega)
  have hw4_0 := nm.fr hw3 hf4 (by simp <;> omega) (by simp <;> omega)
  have hc4_400 := hf4 4 0 (by simp <;> omega)
  have hF4 := hF3.tr hf4 (by simp [Hk] <;> omega)
  show V X _ w _ _ s4 []
  refine v_aload_n hX 2 rfl (atL dAX6_compare_0 16 rfl) ?_
  refine gf_X6_64 hX hk0 (atL dAX6_compare_0 17 rfl) ?_
  refine v_aload_n hX 2 rfl (atL dAX6_compare_0 18 rfl) ?_
  refine gf_X6_68 hX hk0 (atL dAX6_compare_0 19 rfl) ?_
  refine v_callV hX (As := [.ref (w.1 3 1)]) (rest := []) (c_X5_order (xl X) w s4 0 (rv (A.1 sp0)) (hH 3 0 (by simp [mn, tp])) hw4_0 1 (rv (A.1 sp1)) (hH 3 1 (by simp [mn, tp])) hw4) lk_X6_145 (hH 3 0 (by simp [mn, tp])) (fun _ => rfl) rfl rfl rfl (by rw [hR]; exact ⟨Nat.le_of_ble_eq_true rfl, Nat.le_of_ble_eq_true rfl⟩) (by rw [hR]; exact ⟨Nat.le_of_ble_eq_true rfl, Nat.le_of_ble_eq_true rfl⟩) rfl (Nat.le_of_ble_eq_true rfl) (atL dAX6_compare_0 20 rfl) (fun r5 z5 g5 => ?_)
  obtain ⟨ga5, gb5⟩ := g5
  rw [gb5]
  have gc5 : (r5 = -1 ∧ rv (A.1 sp0) < rv (A.1 sp1)) ∨ (r5 = 0 ∧ rv (A.1 sp0) = rv (A.1 sp1)) ∨ (r5 = 1 ∧ rv (A.1 sp1) < rv (A.1 sp0)) := ord3 ga5
  show V X _ w _ _ s4 [.int (iI (r5))]
  exact v_iret hX (atL dAX6_compare_0 21 rfl) (hret _ _ ⟨A, by unfold f_compare; simp only [htsp0, htsp1]; rw [if_neg (by omega)]; rw [ga5], hS.keep hF4 hA4 hD4, hF4.fm⟩ _ (Nat.le_of_ble_eq_true rfl) (Nat.le_of_ble_eq_true rfl))

set_option maxHeartbeats 1000000 in
set_option maxRecDepth 100000 in
theorem c_X6_bits (l : Launch) (hst : l.stackTraces = false) (w : Wl) (σ : St) (hk0 : w.2 0 0) (A : Ab) (hS : HS σ A) (p0 : Int) (hp0 : rI p0) : Cx l yX6_bits cX6_bits 2 (Option.some Jvm.ClassFile.FieldType.int) 7 103 1 6 wI [.ref (w.1 0 0), .int (iI (p0))] w σ (fun a σ' => ∃ A', f_bits A p0 = (0, a, A') ∧ HS σ' A' ∧ FM σ σ') (Xc (f_bits A p0) A) := by
  refine Cx.of (own := RX6) (lv := [(0, .ref (w.1 0 0)), (1, .int (iI (p0)))]) (by decide +kernel) rfl (Nat.le_of_ble_eq_true rfl) rfl (fun X hX hxl hR hcl hret hx => ?_)
  subst hxl
  have hH : ∀ c q, (c, q) ∈ mn σ 0 0 → w.2 c q := fun c q h => hcl 0 0 hk0 (c, q) h
  have hp0a := hp0.1
  have hp0b := hp0.2
  have hA := hS.2.1
  have hD := hS.2.2.1
  refine v_aload_n hX 0 rfl (atL dAX6_bits_0 0 rfl) ?_
  refine gf_X6_64 hX hk0 (atL dAX6_bits_0 1 rfl) ?_
  refine v_aload_n hX 0 rfl (atL dAX6_bits_0 2 rfl) ?_
  refine v_iload_n hX 1 rfl (atL dAX6_bits_0 3 rfl) ?_
  refine v_callVX hX (As := [.int (iI (p0))]) (rest := [.ref (w.1 3 0)]) (c_X6_slotAt (xl X) hst w σ hk0 p0 hp0) lk_X6_92 hk0 (fun _ => rfl) rfl rfl rfl (by rw [hR]; exact ⟨Nat.le_of_ble_eq_true rfl, Nat.le_of_ble_eq_true rfl⟩) (by rw [hR]; exact ⟨Nat.le_of_ble_eq_true rfl, Nat.le_of_ble_eq_true rfl⟩) rfl (Nat.le_of_ble_eq_true rfl) (atL dAX6_bits_0 4 rfl) (fun E hE => hx E (Or.inl ⟨hE.1, by unfold f_bits; exact if_pos (fun q => hE.2 (by omega))⟩) _ (Nat.le_of_ble_eq_true rfl) (Nat.le_of_ble_eq_true rfl)) (fun r1 z1 g1 => ?_)
  obtain ⟨sp0, hsp0, hsp02, ga1, gb1⟩ := g1
  rw [gb1]
  subst ga1
  have hrsp0 := hS.1 sp0 (by omega)
  obtain ⟨lsp0, hlsp0⟩ : ∃ q, (A.1 sp0).length = q := ⟨_, rfl⟩
  have hqsp0 : lsp0 ≤ 256 := by rw [← hlsp0]; exact hS.sl hsp02
  have hvsp0 : w.2 1 sp0 := hcl 11 0 (hH 11 0 (by simp [mn, tp])) (1, sp0) (by simp [mn]; omega)
  have htsp0 : p0.toNat = sp0 := by omega
  show V X _ w _ _ σ [.ref (w.1 1 sp0), .ref (w.1 3 0)]
  refine v_callV hX (As := [.ref (w.1 1 sp0)]) (rest := []) (c_X5_read (xl X) w σ 0 (hH 3 0 (by simp [mn, tp])) (hD 0) sp0 hvsp0 (hA sp0) (by rw [hrsp0.2, hlsp0]; omega)) lk_X6_132 (hH 3 0 (by simp [mn, tp])) (fun _ => rfl) rfl rfl rfl (by rw [hR]; exact ⟨Nat.le_of_ble_eq_true rfl, Nat.le_of_ble_eq_true rfl⟩) (by rw [hR]; exact ⟨Nat.le_of_ble_eq_true rfl, Nat.le_of_ble_eq_true rfl⟩) rfl (Nat.le_of_ble_eq_true rfl) (atL dAX6_bits_0 5 rfl) (fun _ s2 e2 => ?_)
  obtain ⟨hw2, hf2⟩ := e2
  rw [hrsp0.2] at hw2
  have hb2 := rv_b hrsp0.by (by rw [hlsp0]; omega)
  have hA2 := hA.fr hf2 (by simp)
  have hD2 := hD.one hf2 hw2
  have hr2_sp0 := hrsp0.fr hf2 (by simp <;> omega) (by simp <;> omega)
  have hc2_400 := hf2 4 0 (by simp <;> omega)
  have hF2 := (FH.rf : FH 99 σ σ).tr hf2 (by simp [Hk] <;> omega)
  show V X _ w _ _ s2 []
  refine v_aload_n hX 0 rfl (atL dAX6_bits_0 6 rfl) ?_
  refine gf_X6_64 hX hk0 (atL dAX6_bits_0 7 rfl) ?_
  refine v_callV hX (As := []) (rest := []) (c_X5_bitLength (xl X) w s2 0 (rv (A.1 sp0)) (hH 3 0 (by simp [mn, tp])) hw2) lk_X6_149 (hH 3 0 (by simp [mn, tp])) (fun _ => rfl) rfl rfl rfl (by rw [hR]; exact ⟨Nat.le_of_ble_eq_true rfl, Nat.le_of_ble_eq_true rfl⟩) (by rw [hR]; exact ⟨Nat.le_of_ble_eq_true rfl, Nat.le_of_ble_eq_true rfl⟩) rfl (Nat.le_of_ble_eq_true rfl) (atL dAX6_bits_0 8 rfl) (fun r3 z3 g3 => ?_)
  obtain ⟨ga3, gb3⟩ := g3
  rw [gb3]
  subst ga3
  have hbl3 : blen (rv (A.1 sp0)) ≤ 2240 := blen_le (WN.le hw2)
  show V X _ w _ _ s2 [.int (iI (((blen (rv (A.1 sp0)) : Nat) : Int)))]
  exact v_iret hX (atL dAX6_bits_0 9 rfl) (hret _ _ ⟨A, by unfold f_bits; simp only [htsp0]; rw [if_neg (by omega)], hS.keep hF2 hA2 hD2, hF2.fm⟩ _ (Nat.le_of_ble_eq_true rfl) (Nat.le_of_ble_eq_true rfl))
