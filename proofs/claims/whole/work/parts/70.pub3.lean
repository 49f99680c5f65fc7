set_option maxHeartbeats 1000000 in
set_option maxRecDepth 100000 in
theorem c_X6_calc (l : Launch) (hst : l.stackTraces = false) (w : Wl) (σ : St) (hk0 : w.2 0 0) (A : Ab) (hS : HS σ A) (p0 : Int) (hp0 : rI p0) (p1 : Int) (hp1 : rI p1) (p2 : Int) (hp2 : rI p2) (p3 : Int) (hp3 : rI p3) (p4 : Int) (hp4 : rI p4) : Cx l yX6_calc cX6_calc 11 (Option.some Jvm.ClassFile.FieldType.int) 7 155 5 30 wI [.ref (w.1 0 0), .int (iI (p0)), .int (iI (p1)), .int (iI (p2)), .int (iI (p3)), .int (iI (p4))] w σ (fun a σ' => ∃ A', f_calc A p0 p1 p2 p3 p4 = (0, a, A') ∧ HS σ' A' ∧ FM σ σ') (Xc (f_calc A p0 p1 p2 p3 p4) A) := by
  refine Cx.of (own := RX6) (lv := [(0, .ref (w.1 0 0)), (1, .int (iI (p0))), (2, .int (iI (p1))), (3, .int (iI (p2))), (4, .int (iI (p3))), (5, .int (iI (p4)))]) (by decide +kernel) rfl (Nat.le_of_ble_eq_true rfl) rfl (fun X hX hxl hR hcl hret hx => ?_)
  subst hxl
  have hH : ∀ c q, (c, q) ∈ mn σ 0 0 → w.2 c q := fun c q h => hcl 0 0 hk0 (c, q) h
  have hp0a := hp0.1
  have hp0b := hp0.2
  have hp1a := hp1.1
  have hp1b := hp1.2
  have hp2a := hp2.1
  have hp2b := hp2.2
  have hp3a := hp3.1
  have hp3b := hp3.2
  have hp4a := hp4.1
  have hp4b := hp4.2
  have hA := hS.2.1
  have hD := hS.2.2.1
  refine v_aload_n hX 0 rfl (atL dAX6_calc_0 0 rfl) ?_
  refine v_iload_n hX 2 rfl (atL dAX6_calc_0 1 rfl) ?_
  refine v_callVX hX (As := [.int (iI (p1))]) (rest := []) (c_X6_slotAt (xl X) hst w σ hk0 p1 hp1) lk_X6_92 hk0 (fun _ => rfl) rfl rfl rfl (by rw [hR]; exact ⟨Nat.le_of_ble_eq_true rfl, Nat.le_of_ble_eq_true rfl⟩) (by rw [hR]; exact ⟨Nat.le_of_ble_eq_true rfl, Nat.le_of_ble_eq_true rfl⟩) rfl (Nat.le_of_ble_eq_true rfl) (atL dAX6_calc_0 2 rfl) (fun E hE => hx E (Or.inl ⟨hE.1, by unfold f_calc; exact if_pos (fun q => hE.2 (by omega))⟩) _ (Nat.le_of_ble_eq_true rfl) (Nat.le_of_ble_eq_true rfl)) (fun r1 z1 g1 => ?_)
  obtain ⟨sp1, hsp1, hsp12, ga1, gb1⟩ := g1
  rw [gb1]
  subst ga1
  have hrsp1 := hS.1 sp1 (by omega)
  obtain ⟨lsp1, hlsp1⟩ : ∃ q, (A.1 sp1).length = q := ⟨_, rfl⟩
  have hqsp1 : lsp1 ≤ 256 := by rw [← hlsp1]; exact hS.sl hsp12
  have hvsp1 : w.2 1 sp1 := hcl 11 0 (hH 11 0 (by simp [mn, tp])) (1, sp1) (by simp [mn]; omega)
  have htsp1 : p1.toNat = sp1 := by omega
  show V X _ w _ _ σ [.ref (w.1 1 sp1)]
  refine v_astore hX (lv' := [(6, .ref (w.1 1 sp1)), (0, .ref (w.1 0 0)), (1, .int (iI (p0))), (2, .int (iI (p1))), (3, .int (iI (p2))), (4, .int (iI (p3))), (5, .int (iI (p4)))]) (Nat.le_of_ble_eq_true rfl) rfl (atL dAX6_calc_0 3 rfl) ?_
  refine v_aload_n hX 1 rfl (atL dAX6_calc_0 4 rfl) ?_
  refine v_iload_n hX 4 rfl (atL dAX6_calc_0 5 rfl) ?_
  refine v_callVX hX (As := [.int (iI (p2))]) (rest := []) (c_X6_slotAt (xl X) hst w σ hk0 p2 hp2) lk_X6_92 hk0 (fun _ => rfl) rfl rfl rfl (by rw [hR]; exact ⟨Nat.le_of_ble_eq_true rfl, Nat.le_of_ble_eq_true rfl⟩) (by rw [hR]; exact ⟨Nat.le_of_ble_eq_true rfl, Nat.le_of_ble_eq_true rfl⟩) rfl (Nat.le_of_ble_eq_true rfl) (atL dAX6_calc_0 6 rfl) (fun E hE => hx E (Or.inl ⟨hE.1, by unfold f_calc; exact if_pos (fun q => hE.2 (by omega))⟩) _ (Nat.le_of_ble_eq_true rfl) (Nat.le_of_ble_eq_true rfl)) (fun r2 z2 g2 => ?_)
  obtain ⟨sp2, hsp2, hsp22, ga2, gb2⟩ := g2
  rw [gb2]
  subst ga2
  have hrsp2 := hS.1 sp2 (by omega)
  obtain ⟨lsp2, hlsp2⟩ : ∃ q, (A.1 sp2).length = q := ⟨_, rfl⟩
  have hqsp2 : lsp2 ≤ 256 := by rw [← hlsp2]; exact hS.sl hsp22
  have hvsp2 : w.2 1 sp2 := hcl 11 0 (hH 11 0 (by simp [mn, tp])) (1, sp2) (by simp [mn]; omega)
  have htsp2 : p2.toNat = sp2 := by omega
  show V X _ w _ _ σ [.ref (w.1 1 sp2)]
  refine v_astore hX (lv' := [(7, .ref (w.1 1 sp2)), (6, .ref (w.1 1 sp1)), (0, .ref (w.1 0 0)), (1, .int (iI (p0))), (2, .int (iI (p1))), (3, .int (iI (p2))), (4, .int (iI (p3))), (5, .int (iI (p4)))]) (Nat.le_of_ble_eq_true rfl) rfl (atL dAX6_calc_0 7 rfl) ?_
  refine v_aload_n hX 2 rfl (atL dAX6_calc_0 8 rfl) ?_
  refine v_iload hX 6 rfl (atL dAX6_calc_0 9 rfl) ?_
  refine v_callVX hX (As := [.int (iI (p3))]) (rest := []) (c_X6_slotAt (xl X) hst w σ hk0 p3 hp3) lk_X6_92 hk0 (fun _ => rfl) rfl rfl rfl (by rw [hR]; exact ⟨Nat.le_of_ble_eq_true rfl, Nat.le_of_ble_eq_true rfl⟩) (by rw [hR]; exact ⟨Nat.le_of_ble_eq_true rfl, Nat.le_of_ble_eq_true rfl⟩) rfl (Nat.le_of_ble_eq_true rfl) (atL dAX6_calc_0 10 rfl) (fun E hE => hx E (Or.inl ⟨hE.1, by unfold f_calc; exact if_pos (fun q => hE.2 (by omega))⟩) _ (Nat.le_of_ble_eq_true rfl) (Nat.le_of_ble_eq_true rfl)) (fun r3 z3 g3 => ?_)
  obtain ⟨sp3, hsp3, hsp32, ga3, gb3⟩ := g3
  rw [gb3]
  subst ga3
  have hrsp3 := hS.1 sp3 (by omega)
  obtain ⟨lsp3, hlsp3⟩ : ∃ q, (A.1 sp3).length = q := ⟨_, rfl⟩
  have hqsp3 : lsp3 ≤ 256 := by rw [← hlsp3]; exact hS.sl hsp32
  have hvsp3 : w.2 1 sp3 := hcl 11 0 (hH 11 0 (by simp [mn, tp])) (1, sp3) (by simp [mn]; omega)
  have htsp3 : p3.toNat = sp3 := by omega
  show V X _ w _ _ σ [.ref (w.1 1 sp3)]
  refine v_astore hX (lv' := [(8, .ref (w.1 1 sp3)), (7, .ref (w.1 1 sp2)), (6, .ref (w.1 1 sp1)), (0, .ref (w.1 0 0)), (1, .int (iI (p0))), (2, .int (iI (p1))), (3, .int (iI (p2))), (4, .int (iI (p3))), (5, .int (iI (p4)))]) (Nat.le_of_ble_eq_true rfl) rfl (atL dAX6_calc_0 11 rfl) ?_
  refine v_aload_n hX 3 rfl (atL dAX6_calc_0 12 rfl) ?_
  refine v_iload hX 8 rfl (atL dAX6_calc_0 13 rfl) ?_
  refine v_callVX hX (As := [.int (iI (p4))]) (rest := []) (c_X6_slotAt (xl X) hst w σ hk0 p4 hp4) lk_X6_92 hk0 (fun _ => rfl) rfl rfl rfl (by rw [hR]; exact ⟨Nat.le_of_ble_eq_true rfl, Nat.le_of_ble_eq_true rfl⟩) (by rw [hR]; exact ⟨Nat.le_of_ble_eq_true rfl, Nat.le_of_ble_eq_true rfl⟩) rfl (Nat.le_of_ble_eq_true rfl) (atL dAX6_calc_0 14 rfl) (fun E hE => hx E (Or.inl ⟨hE.1, by unfold f_calc; exact if_pos (fun q => hE.2 (by omega))⟩) _ (Nat.le_of_ble_eq_true rfl) (Nat.le_of_ble_eq_true rfl)) (fun r4 z4 g4 => ?_)
  obtain ⟨sp4, hsp4, hsp42, ga4, gb4⟩ := g4
  rw [gb4]
  subst ga4
  have hrsp4 := hS.1 sp4 (by omega)
  obtain ⟨lsp4, hlsp4⟩ : ∃ q, (A.1 sp4).length = q := ⟨_, rfl⟩
  have hqsp4 : lsp4 ≤ 256 := by rw [← hlsp4]; exact hS.sl hsp42
  have hvsp4 : w.2 1 sp4 := hcl 11 0 (hH 11 0 (by simp [mn, tp])) (1, sp4) (by simp [mn]; omega)
  have htsp4 : p4.toNat = sp4 := by omega
  show V X _ w _ _ σ [.ref (w.1 1 sp4)]
  refine v_astore hX (lv' := [(9, .ref (w.1 1 sp4)), (8, .ref (w.1 1 sp3)), (7, .ref (w.1 1 sp2)), (6, .ref (w.1 1 sp1)), (0, .ref (w.1 0 0)), (1, .int (iI (p0))), (2, .int (iI (p1))), (3, .int (iI (p2))), (4, .int (iI (p3))), (5, .int (iI (p4)))]) (Nat.le_of_ble_eq_true rfl) rfl (atL dAX6_calc_0 15 rfl) ?_
  refine v_iload_n hX 5 rfl (atL dAX6_calc_0 16 rfl) ?_
  refine v_if_lt hX ⟨by omega, by omega⟩ (tgt := 40) (atL dAX6_calc_0 17 rfl) (by decide) (fun h31 => ?_) (fun h31 => ?_)
  · exact v_throwS hX hst wd_317 xi_A (List.mem_of_getElem? (i := 4) rfl) xg_A xl_A xn_A (by decide +kernel) (atL dAX6_calc_0 21 rfl) (atL dAX6_calc_0 22 rfl) (atL dAX6_calc_0 23 rfl) (atL dAX6_calc_0 24 rfl) (atL dAX6_calc_0 25 rfl) (by rw [hR]; exact ⟨Nat.le_of_ble_eq_true rfl, Nat.le_of_ble_eq_true rfl⟩) (by rw [hR]; exact ⟨Nat.le_of_ble_eq_true rfl, Nat.le_of_ble_eq_true rfl⟩) (hx _ (Or.inr ⟨rfl, by unfold f_calc; rw [if_neg (by omega), if_pos (by omega)]⟩) _ (Nat.le_of_ble_eq_true rfl) (Nat.le_of_ble_eq_true rfl))
  · refine v_iload_n hX 5 rfl (atL dAX6_calc_0 18 rfl) ?_
    refine v_bipush hX (by decide +kernel) (atL dAX6_calc_0 19 rfl) ?_
    refine v_icmp_le hX ⟨by omega, by omega⟩ ⟨by omega, by omega⟩ (tgt := 50) (atL dAX6_calc_0 20 rfl) (by decide) (fun h37 => ?_) (fun h37 => ?_)
    · refine v_aload_n hX 4 rfl (atL dAX6_calc_0 26 rfl) ?_
      refine gf_X6_64 hX hk0 (atL dAX6_calc_0 27 rfl) ?_
      refine v_aload hX 3 rfl (atL dAX6_calc_0 28 rfl) ?_
      refine v_callV hX (As := [.ref (w.1 1 sp1)]) (rest := []) (c_X5_read (xl X) w σ 0 (hH 3 0 (by simp [mn, tp])) (hD 0) sp1 hvsp1 (hA sp1) (by rw [hrsp1.2, hlsp1]; omega)) lk_X6_132 (hH 3 0 (by simp [mn, tp])) (fun _ => rfl) rfl rfl rfl (by rw [hR]; exact ⟨Nat.le_of_ble_eq_true rfl, Nat.le_of_ble_eq_true rfl⟩) (by rw [hR]; exact ⟨Nat.le_of_ble_eq_true rfl, Nat.le_of_ble_eq_true rfl⟩) rfl (Nat.le_of_ble_eq_true rfl) (atL dAX6_calc_0 29 rfl) (fun _ s5 e5 => ?_)
      obtain ⟨hw5, hf5⟩ := e5
      rw [hrsp1.2] at hw5
      have hb5 := rv_b hrsp1.by (by rw [hlsp1]; omega)
      have hA5 := hA.fr hf5 (by simp)
      have hD5 := hD.one hf5 hw5
      have hr5_sp1 := hrsp1.fr hf5 (by simp <;> omega) (by simp <;> omega)
      have hr5_sp2 := hrsp2.fr hf5 (by simp <;> omega) (by simp <;> omega)
      have hr5_sp3 := hrsp3.fr hf5 (by simp <;> omega) (by simp <;> omega)
      have hr5_sp4 := hrsp4.fr hf5 (by simp <;> omega) (by simp <;> omega)
      have hc5_400 := hf5 4 0 (by simp <;> omega)
      have hF5 := (FH.rf : FH sp4 σ σ).tr hf5 (by simp [Hk] <;> omega)
      show V X _ w _ _ s5 []
      refine v_aload_n hX 4 rfl (atL dAX6_calc_0 30 rfl) ?_
      refine gf_X6_68 hX hk0 (atL dAX6_calc_0 31 rfl) ?_
      refine v_aload hX 2 rfl (atL dAX6_calc_0 32 rfl) ?_
      refine v_callV hX (As := [.ref (w.1 1 sp2)]) (rest := []) (c_X5_read (xl X) w s5 1 (hH 3 1 (by simp [mn, tp])) (hD5 1) sp2 hvsp2 (hA5 sp2) (by rw [hr5_sp2.2, hlsp2]; omega)) lk_X6_132 (hH 3 1 (by simp [mn, tp])) (fun _ => rfl) rfl rfl rfl (by rw [hR]; exact ⟨Nat.le_of_ble_eq_true rfl, Nat.le_of_ble_eq_true rfl⟩) (by rw [hR]; exact ⟨Nat.le_of_ble_eq_true rfl, Nat.le_of_ble_eq_true rfl⟩) rfl (Nat.le_of_ble_eq_true rfl) (atL dAX6_calc_0 33 rfl) (fun _ s6 e6 => ?_)
      obtain ⟨hw6, hf6⟩ := e6
      rw [hr5_sp2.2] at hw6
      have hb6 := rv_b hr5_sp2.by (by rw [hlsp2]; omega)
      have hA6 := hA5.fr hf6 (by simp)
      have hD6 := hD5.one hf6 hw6
      have hr6_sp1 := hr5_sp1.fr hf6 (by simp <;> omega) (by simp <;> omega)
      have hr6_sp2 := hr5_sp2.fr hf6 (by simp <;> omega) (by simp <;> omega)
      have hr6_sp3 := hr5_sp3.fr hf6 (by simp <;> omega) (by simp <;> omega)
      have hr6_sp4 := hr5_sp4.fr hf6 (by simp <;> omega) (by simp <;> omega)
      have hw6_0 := nm.fr hw5 hf6 (by simp <;> omega) (by simp <;> omega)
      have hc6_400 := hf6 4 0 (by simp <;> omega)
      have hF6 := hF5.tr hf6 (by simp [Hk] <;> omega)
      show V X _ w _ _ s6 []
      refine v_aload_n hX 4 rfl (atL dAX6_calc_0 34 rfl) ?_
      refine gf_X6_71 hX hk0 (atL dAX6_calc_0 35 rfl) ?_
      refine v_aload hX 1 rfl (atL dAX6_calc_0 36 rfl) ?_
      refine v_callV hX (As := [.ref (w.1 1 sp3)]) (rest := []) (c_X5_read (xl X) w s6 2 (hH 3 2 (by simp [mn, tp])) (hD6 2) sp3 hvsp3 (hA6 sp3) (by rw [hr6_sp3.2, hlsp3]; omega)) lk_X6_132 (hH 3 2 (by simp [mn, tp])) (fun _ => rfl) rfl rfl rfl (by rw [hR]; exact ⟨Nat.le_of_ble_eq_true rfl, Nat.le_of_ble_eq_true rfl⟩) (by rw [hR]; exact ⟨Nat.le_of_ble_eq_true rfl, Nat.le_of_ble_eq_true rfl⟩) rfl (Nat.le_of_ble_eq_true rfl) (atL dAX6_calc_0 37 rfl) (fun _ s7 e7 => ?_)
      obtain ⟨hw7, hf7⟩ := e7
      rw [hr6_sp3.2] at hw7
      have hb7 := rv_b hr6_sp3.by (by rw [hlsp3]; omega)
      have hA7 := hA6.fr hf7 (by simp)
      have hD7 := hD6.one hf7 hw7
      have hr7_sp1 := hr6_sp1.fr hf7 (by simp <;> omega) (by simp <;> omega)
      have hr7_sp2 := hr6_sp2.fr hf7 (by simp <;> omega) (by simp <;> omega)
      have hr7_sp3 := hr6_sp3.fr hf7 (by simp <;> omega) (by simp <;> omega)
      have hr7_sp4 := hr6_sp4.fr hf7 (by simp <;> omega) (by simp <;> omega)
      have hw7_0 := nm.fr hw6_0 hf7 (by simp <;> omega) (by simp <;> omega)
      have hw7_1 := nm.fr hw6 hf7 (by simp <;> omega) (by simp <;> omega)
      have hc7_400 := hf7 4 0 (by simp <;> omega)
      have hF7 := hF6.tr hf7 (by simp [Hk] <;> omega)
      show V X _ w _ _ s7 []
      refine v_iload_n hX 5 rfl (atL dAX6_calc_0 38 rfl) ?_
      refine v_iconst hX (atL dAX6_calc_0 39 rfl) ?_
      refine v_icmp_ge hX ⟨by omega, by omega⟩ ⟨by omega, by omega⟩ (tgt := 90) (atL dAX6_calc_0 40 rfl) (by decide) (fun h79 => ?_) (fun h79 => ?_)
      · refine v_aload_n hX 4 rfl (atL dAX6_calc_0 45 rfl) ?_
        refine v_iload_n hX 5 rfl (atL dAX6_calc_0 46 rfl) ?_
        refine v_callV hX (As := [.int (iI (p0))]) (rest := []) (c_X6_reckonDeep (xl X) w s7 hk0 hA7 hD7 (rv (A.1 sp1)) hw7_0 hb5 (rv (A.1 sp2)) hw7_1 hb6 (rv (A.1 sp3)) hw7 hb7 p0 (by omega)) lk_X6_138 hk0 (fun _ => rfl) rfl rfl rfl (by rw [hR]; exact ⟨Nat.le_of_ble_eq_true rfl, Nat.le_of_ble_eq_true rfl⟩) (by rw [hR]; exact ⟨Nat.le_of_ble_eq_true rfl, Nat.le_of_ble_eq_true rfl⟩) rfl (Nat.le_of_ble_eq_true rfl) (atL dAX6_calc_0 47 rfl) (fun r8 s8 e8 => ?_)
        obtain ⟨gc8, gA8, gD8, gF8⟩ := e8
        have gd8 : r8 = 0 ∨ (-10 < r8 ∧ r8 < 0) := by rcases gc8 with q | q <;> omega
        have hr8_sp1 := hr7_sp1.frH gF8 (by omega) (by omega)
        have hr8_sp2 := hr7_sp2.frH gF8 (by omega) (by omega)
        have hr8_sp3 := hr7_sp3.frH gF8 (by omega) (by omega)
        have hr8_sp4 := hr7_sp4.frH gF8 (by omega) (by omega)
        have hc8_400 := gF8 4 0 (Or.inr (Or.inr (Or.inl ⟨by omega, by omega⟩))) (fun q => by omega)
        have hF8 := hF7.tr2 (gF8.mono (t := sp4) (by omega))
        show V X _ w _ _ s8 [.int (iI (r8))]
        refine v_istore hX (lv' := [(10, .int (iI (r8))), (9, .ref (w.1 1 sp4)), (8, .ref (w.1 1 sp3)), (7, .ref (w.1 1 sp2)), (6, .ref (w.1 1 sp1)), (0, .ref (w.1 0 0)), (1, .int (iI (p0))), (2, .int (iI (p1))), (3, .int (iI (p2))), (4, .int (iI (p3))), (5, .int (iI (p4)))]) (Nat.le_of_ble_eq_true rfl) rfl (atL dAX6_calc_0 48 rfl) ?_
        refine v_iload hX 0 rfl (atL dAX6_calc_0 49 rfl) ?_
        refine v_if_ge hX ⟨by omega, by omega⟩ (tgt := 107) (atL dAX6_calc_0 50 rfl) (by decide) (fun h99 => ?_) (fun h99 => ?_)
        · obtain ⟨v, hwv, hcv⟩ := (gc8.resolve_right (fun q => by omega)).2
          refine v_aload_n hX 5 rfl (atL dAX6_calc_0 53 rfl) ?_
          refine v_aload_n hX 5 rfl (atL dAX6_calc_0 54 rfl) ?_
          refine gf_X6_74 hX hk0 (atL dAX6_calc_0 55 rfl) ?_
          refine v_aload hX 1 rfl (atL dAX6_calc_0 56 rfl) ?_
          refine v_callV hX (As := [.ref (w.1 3 3), .ref (w.1 1 sp4)]) (rest := []) (c_X6_putFewest (xl X) w s8 hk0 gA8 gD8 3 v (hH 3 3 (by simp [mn, tp])) hwv sp4 hvsp4 (by omega)) lk_X6_141 hk0 (fun _ => rfl) rfl rfl rfl (by rw [hR]; exact ⟨Nat.le_of_ble_eq_true rfl, Nat.le_of_ble_eq_true rfl⟩) (by rw [hR]; exact ⟨Nat.le_of_ble_eq_true rfl, Nat.le_of_ble_eq_true rfl⟩) rfl (Nat.le_of_ble_eq_true rfl) (atL dAX6_calc_0 57 rfl) (fun r9 s9 e9 => ?_)
          obtain ⟨gc9, gA9, gD9, gF9⟩ := e9
          have hF9 := hF8.tr2 gF9
          show V X _ w _ _ s9 [.int (iI (r9))]
          exact v_iret hX (atL dAX6_calc_0 58 rfl) (hret _ _ (putR_post (by unfold f_calc; simp only [htsp1, htsp2, htsp3, htsp4]; rw [if_neg (by omega), if_neg (by omega), hcv]; rfl) hS hF9 gA9 gD9 gc9 hr8_sp4) _ (Nat.le_of_ble_eq_true rfl) (Nat.le_of_ble_eq_true rfl))
        · refine v_iload hX 0 rfl (atL dAX6_calc_0 51 rfl) ?_
          refine v_goto hX (tgt := 117) (atL dAX6_calc_0 52 rfl) (by decide) ?_
          exact v_iret hX (atL dAX6_calc_0 58 rfl) (hret _ _ ⟨A, by unfold f_calc; simp only [htsp1, htsp2, htsp3, htsp4]; rw [if_neg (by omega), if_neg (by omega)]; exact cr_ref gc8 (by omega), hS.keepT hF8 gA8 gD8 hr8_sp4, hF8.fm⟩ _ (Nat.le_of_ble_eq_true rfl) (Nat.le_of_ble_eq_true rfl))
      · refine v_aload_n hX 4 rfl (atL dAX6_calc_0 41 rfl) ?_
        refine v_iload_n hX 5 rfl (atL dAX6_calc_0 42 rfl) ?_
        refine v_callV hX (As := [.int (iI (p0))]) (rest := []) (c_X6_reckonPlain (xl X) w s7 hk0 hA7 hD7 (rv (A.1 sp1)) hw7_0 hb5 (rv (A.1 sp2)) hw7_1 hb6 (rv (A.1 sp3)) hw7 hb7 p0 (by omega)) lk_X6_135 hk0 (fun _ => rfl) rfl rfl rfl (by rw [hR]; exact ⟨Nat.le_of_ble_eq_true rfl, Nat.le_of_ble_eq_true rfl⟩) (by rw [hR]; exact ⟨Nat.le_of_ble_eq_true rfl, Nat.le_of_ble_eq_true rfl⟩) rfl (Nat.le_of_ble_eq_true rfl) (atL dAX6_calc_0 43 rfl) (fun r10 s10 e10 => ?_)
        obtain ⟨gc10, gA10, gD10, gF10⟩ := e10
        have gd10 : r10 = 0 ∨ (-10 < r10 ∧ r10 < 0) := by rcases gc10 with q | q <;> omega
        have hr10_sp1 := hr7_sp1.frH gF10 (by omega) (by omega)
        have hr10_sp2 := hr7_sp2.frH gF10 (by omega) (by omega)
        have hr10_sp3 := hr7_sp3.frH gF10 (by omega) (by omega)
        have hr10_sp4 := hr7_sp4.frH gF10 (by omega) (by omega)
        have hc10_400 := gF10 4 0 (Or.inr (Or.inr (Or.inl ⟨by omega, by omega⟩))) (fun q => by omega)
        have hF10 := hF7.tr2 (gF10.mono (t := sp4) (by omega))
        show V X _ w _ _ s10 [.int (iI (r10))]
        refine v_goto hX (tgt := 95) (atL dAX6_calc_0 44 rfl) (by decide) ?_
        refine v_istore hX (lv' := [(10, .int (iI (r10))), (9, .ref (w.1 1 sp4)), (8, .ref (w.1 1 sp3)), (7, .ref (w.1 1 sp2)), (6, .ref (w.1 1 sp1)), (0, .ref (w.1 0 0)), (1, .int (iI (p0))), (2, .int (iI (p1))), (3, .int (iI (p2))), (4, .int (iI (p3))), (5, .int (iI (p4)))]) (Nat.le_of_ble_eq_true rfl) rfl (atL dAX6_calc_0 48 rfl) ?_
        refine v_iload hX 0 rfl (atL dAX6_calc_0 49 rfl) ?_
        refine v_if_ge hX ⟨by omega, by omega⟩ (tgt := 107) (atL dAX6_calc_0 50 rfl) (by decide) (fun h99 => ?_) (fun h99 => ?_)
        · obtain ⟨v, hwv, hcv⟩ := (gc10.resolve_right (fun q => by omega)).2
          refine v_aload_n hX 5 rfl (atL dAX6_calc_0 53 rfl) ?_
          refine v_aload_n hX 5 rfl (atL dAX6_calc_0 54 rfl) ?_
          refine gf_X6_74 hX hk0 (atL dAX6_calc_0 55 rfl) ?_
          refine v_aload hX 1 rfl (atL dAX6_calc_0 56 rfl) ?_
          refine v_callV hX (As := [.ref (w.1 3 3), .ref (w.1 1 sp4)]) (rest := []) (c_X6_putFewest (xl X) w s10 hk0 gA10 gD10 3 v (hH 3 3 (by simp [mn, tp])) hwv sp4 hvsp4 (by omega)) lk_X6_141 hk0 (fun _ => rfl) rfl rfl rfl (by rw [hR]; exact ⟨Nat.le_of_ble_eq_true rfl, Nat.le_of_ble_eq_true rfl⟩) (by rw [hR]; exact ⟨Nat.le_of_ble_eq_true rfl, Nat.le_of_ble_eq_true rfl⟩) rfl (Nat.le_of_ble_eq_true rfl) (atL dAX6_calc_0 57 rfl) (fun r11 s11 e11 => ?_)
          obtain ⟨gc11, gA11, gD11, gF11⟩ := e11
          have hF11 := hF10.tr2 gF11
          show V X _ w _ _ s11 [.int (iI (r11))]
          exact v_iret hX (atL dAX6_calc_0 58 rfl) (hret _ _ (putR_post (by unfold f_calc; simp only [htsp1, htsp2, htsp3, htsp4]; rw [if_neg (by omega), if_neg (by omega), hcv]; rfl) hS hF11 gA11 gD11 gc11 hr10_sp4) _ (Nat.le_of_ble_eq_true rfl) (Nat.le_of_ble_eq_true rfl))
        · refine v_iload hX 0 rfl (atL dAX6_calc_0 51 rfl) ?_
          refine v_goto hX (tgt := 117) (atL dAX6_calc_0 52 rfl) (by decide) ?_
          exact v_iret hX (atL dAX6_calc_0 58 rfl) (hret _ _ ⟨A, by unfold f_calc; simp only [htsp1, htsp2, htsp3, htsp4]; rw [if_neg (by omega), if_neg (by omega)]; exact cr_ref gc10 (by omega), hS.keepT hF10 gA10 gD10 hr10_sp4, hF10.fm⟩ _ (Nat.le_of_ble_eq_true rfl) (Nat.le_of_ble_eq_true rfl))
    · exact v_throwS hX hst wd_317 xi_A (List.mem_of_getElem? (i := 4) rfl) xg_A xl_A xn_A (by decide +kernel) (atL dAX6_calc_0 21 rfl) (atL dAX6_calc_0 22 rfl) (atL dAX6_calc_0 23 rfl) (atL dAX6_calc_0 24 rfl) (atL dAX6_calc_0 25 rfl) (by rw [hR]; exact ⟨Nat.le_of_ble_eq_true rfl, Nat.le_of_ble_eq_true rfl⟩) (by rw [hR]; exact ⟨Nat.le_of_ble_eq_true rfl, Nat.le_of_ble_eq_true rfl⟩) (hx _ (Or.inr ⟨rfl, by unfold f_calc; rw [if_neg (by omega), if_pos (by omega)]⟩) _ (Nat.le_of_ble_eq_true rfl) (Nat.le_of_ble_eq_true rfl))

set_option maxHeartbeats 1000000 in
set_option maxRecDepth 100000 in
theorem c_X6_probable (l : Launch) (hst : l.stackTraces = false) (w : Wl) (σ : St) (hk0 : w.2 0 0) (A : Ab) (hS : HS σ A) (p0 : Int) (hp0 : rI p0) : Cx l yX6_probable cX6_probable 2 (Option.some Jvm.ClassFile.FieldType.boolean) 7 138 1 6 wI [.ref (w.1 0 0), .int (iI (p0))] w σ (fun a σ' => ∃ A', f_probable A p0 (0, a, A') ∧ HS σ' A' ∧ FM σ σ') (fun E => (E = eI ∧ f_probable A p0 (1, 0, A)) ∨ (E = eA ∧ f_probable A p0 (2, 0, A))) := by
  refine Cx.of (own := RX6) (lv := [(0, .ref (w.1 0 0)), (1, .int (iI (p0)))]) (by decide +kernel) rfl (Nat.le_of_ble_eq_true rfl) rfl (fun X hX hxl hR hcl hret hx => ?_)
  subst hxl
  have hH : ∀ c q, (c, q) ∈ mn σ 0 0 → w.2 c q := fun c q h => hcl 0 0 hk0 (c, q) h
  have hp0a := hp0.1
  have hp0b := hp0.2
  have hA := hS.2.1
  have hD := hS.2.2.1
  refine v_aload_n hX 0 rfl (atL dAX6_probable_0 0 rfl) ?_
  refine gf_X6_64 hX hk0 (atL dAX6_probable_0 1 rfl) ?_
  refine v_aload_n hX 0 rfl (atL dAX6_probable_0 2 rfl) ?_
  refine v_iload_n hX 1 rfl (atL dAX6_probable_0 3 rfl) ?_
  refine v_callVX hX (As := [.int (iI (p0))]) (rest := [.ref (w.1 3 0)]) (c_X6_slotAt (xl X) hst w σ hk0 p0 hp0) lk_X6_92 hk0 (fun _ => rfl) rfl rfl rfl (by rw [hR]; exact ⟨Nat.le_of_ble_eq_true rfl, Nat.le_of_ble_eq_true rfl⟩) (by rw [hR]; exact ⟨Nat.le_of_ble_eq_true rfl, Nat.le_of_ble_eq_true rfl⟩) rfl (Nat.le_of_ble_eq_true rfl) (atL dAX6_probable_0 4 rfl) (fun E hE => hx E (Or.inl ⟨hE.1, Or.inl ⟨fun q => hE.2 (by omega), rfl⟩⟩) _ (Nat.le_of_ble_eq_true rfl) (Nat.le_of_ble_eq_true rfl)) (fun r1 z1 g1 => ?_)
  obtain ⟨sp0, hsp0, hsp02, ga1, gb1⟩ := g1
  rw [gb1]
  subst ga1
  have hrsp0 := hS.1 sp0 (by omega)
  obtain ⟨lsp0, hlsp0⟩ : ∃ q, (A.1 sp0).length = q := ⟨_, rfl⟩
  have hqsp0 : lsp0 ≤ 256 := by rw [← hlsp0]; exact hS.sl hsp02
  have hvsp0 : w.2 1 sp0 := hcl 11 0 (hH 11 0 (by simp [mn, tp])) (1, sp0) (by simp [mn]; omega)
  have htsp0 : p0.toNat = sp0 := by omega
  show V X _ w _ _ σ [.ref (w.1 1 sp0), .ref (w.1 3 0)]
  refine v_callV hX (As := [.ref (w.1 1 sp0)]) (rest := []) (c_X5_read (xl X) w σ 0 (hH 3 0 (by simp [mn, tp])) (hD 0) sp0 hvsp0 (hA sp0) (by rw [hrsp0.2, hlsp0]; omega)) lk_X6_132 (hH 3 0 (by simp [mn, tp])) (fun _ => rfl) rfl rfl rfl (by rw [hR]; exact ⟨Nat.le_of_ble_eq_true rfl, Nat.le_of_ble_eq_true rfl⟩) (by rw [hR]; exact ⟨Nat.le_of_ble_eq_true rfl, Nat.le_of_ble_eq_true rfl⟩) rfl (Nat.le_of_ble_eq_true rfl) (atL dAX6_probable_0 5 rfl) (fun _ s2 e2 => ?_)
  obtain ⟨hw2, hf2⟩ := e2
  rw [hrsp0.2] at hw2
  have hb2 := rv_b hrsp0.by (by rw [hlsp0]; omega)
  have hA2 := hA.fr hf2 (by simp)
  have hD2 := hD.one hf2 hw2
  have hr2_sp0 := hrsp0.fr hf2 (by simp <;> omega) (by simp <;> omega)
  have hc2_400 := hf2 4 0 (by simp <;> omega)
  have hF2 := (FH.rf : FH 99 σ σ).tr hf2 (by simp [Hk] <;> omega)
  show V X _ w _ _ s2 []
  refine v_aload_n hX 0 rfl (atL dAX6_probable_0 6 rfl) ?_
  refine gf_X6_35 hX hk0 (atL dAX6_probable_0 7 rfl) ?_
  refine v_aload_n hX 0 rfl (atL dAX6_probable_0 8 rfl) ?_
  refine gf_X6_64 hX hk0 (atL dAX6_probable_0 9 rfl) ?_
  refine v_callV hX (As := [.ref (w.1 3 0)]) (rest := []) (c_X0_isProbable (xl X) w s2 (hH 7 0 (by simp [mn, tp])) 0 (rv (A.1 sp0)) (hH 3 0 (by simp [mn, tp])) hw2 (by omega) hD2) lk_X6_153 (hH 7 0 (by simp [mn, tp])) (fun _ => rfl) rfl rfl rfl (by rw [hR]; exact ⟨Nat.le_of_ble_eq_true rfl, Nat.le_of_ble_eq_true rfl⟩) (by rw [hR]; exact ⟨Nat.le_of_ble_eq_true rfl, Nat.le_of_ble_eq_true rfl⟩) rfl (Nat.le_of_ble_eq_true rfl) (atL dAX6_probable_0 10 rfl) (fun r3 s3 e3 => ?_)
  obtain ⟨gc3, hDp3, hf3⟩ := e3
  have gd3 : r3 = 0 ∨ r3 = 1 := by rcases gc3 with q | q <;> omega
  have hA3 := hA2.fr hf3 (by simp)
  have hD3 := hDp3
  have hr3_sp0 := hr2_sp0.fr hf3 (by simp <;> omega) (by simp <;> omega)
  have hw3_0 := nm.fr hw2 hf3 (by simp <;> omega) (by simp <;> omega)
  have hc3_400 := hf3 4 0 (by simp <;> omega)
  have hF3 := hF2.tr hf3 (by simp [Hk] <;> omega)
  show V X _ w _ _ s3 [.int (iI (r3))]
  exact v_zret hX (tf.zr gc3) (atL dAX6_probable_0 11 rfl) (hret _ _ ⟨A, Or.inr ⟨by omega, r3, rfl, by rw [htsp0]; exact gc3⟩, hS.keep hF3 hA3 hD3, hF3.fm⟩ _ (Nat.le_of_ble_eq_true rfl) (Nat.le_of_ble_eq_true rfl))

theorem small_add {v j : Nat} (h : v < 2 ^ 512) (hj : j < 2001) : v + j < 2 ^ 2048 := by
  have h1 : (2 : Nat) ^ 512 + 2 ^ 512 = 2 ^ 513 := by rw [Nat.pow_succ 2 512]; omega
  have h2 : (2 : Nat) ^ 11 ≤ 2 ^ 512 := Nat.pow_le_pow_right (by omega) (by omega)
  have h3 : (2 : Nat) ^ 513 ≤ 2 ^ 2048 := Nat.pow_le_pow_right (by omega) (by omega)
  have h4 : (2 : Nat) ^ 11 = 2048 := rfl
  omega

set_option maxHeartbeats 1000000 in
set_option maxRecDepth 100000 in
theorem c_X6_next (l : Launch) (hst : l.stackTraces = false) (w : Wl) (σ : St) (hk0 : w.2 0 0) (A : Ab) (hS : HS σ A) (p0 : Int) (hp0 : rI p0) (p1 : Int) (hp1 : rI p1) : Cx l yX6_next cX6_next 6 (Option.some Jvm.ClassFile.FieldType.int) 7 138 2 12 wI [.ref (w.1 0 0), .int (iI (p0)), .int (iI (p1))] w σ (fun a σ' => ∃ A', f_next A p0 p1 (0, a, A') ∧ HS σ' A' ∧ FM σ σ') (fun E => (E = eI ∧ f_next A p0 p1 (1, 0, A)) ∨ (E = eA ∧ f_next A p0 p1 (2, 0, A))) := by
  refine Cx.of (own := RX6) (lv := [(0, .ref (w.1 0 0)), (1, .int (iI (p0))), (2, .int (iI (p1)))]) (by decide +kernel) rfl (Nat.le_of_ble_eq_true rfl) rfl (fun X hX hxl hR hcl hret hx => ?_)
  subst hxl
  have hH : ∀ c q, (c, q) ∈ mn σ 0 0 → w.2 c q := fun c q h => hcl 0 0 hk0 (c, q) h
  have hp0a := hp0.1
  have hp0b := hp0.2
  have hp1a := hp1.1
  have hp1b := hp1.2
  have hA := hS.2.1
  have hD := hS.2.2.1
  refine v_aload_n hX 0 rfl (atL dAX6_next_0 0 rfl) ?_
  refine v_iload_n hX 1 rfl (atL dAX6_next_0 1 rfl) ?_
  refine v_callVX hX (As := [.int (iI (p0))]) (rest := []) (c_X6_slotAt (xl X) hst w σ hk0 p0 hp0) lk_X6_92 hk0 (fun _ => rfl) rfl rfl rfl (by rw [hR]; exact ⟨Nat.le_of_ble_eq_true rfl, Nat.le_of_ble_eq_true rfl⟩) (by rw [hR]; exact ⟨Nat.le_of_ble_eq_true rfl, Nat.le_of_ble_eq_true rfl⟩) rfl (Nat.le_of_ble_eq_true rfl) (atL dAX6_next_0 2 rfl) (fun E hE => hx E (Or.inl ⟨hE.1, Or.inl ⟨fun q => hE.2 (by omega), rfl⟩⟩) _ (Nat.le_of_ble_eq_true rfl) (Nat.le_of_ble_eq_true rfl)) (fun r1 z1 g1 => ?_)
  obtain ⟨sp0, hsp0, hsp02, ga1, gb1⟩ := g1
  rw [gb1]
  subst ga1
  have hrsp0 := hS.1 sp0 (by omega)
  obtain ⟨lsp0, hlsp0⟩ : ∃ q, (A.1 sp0).length = q := ⟨_, rfl⟩
  have hqsp0 : lsp0 ≤ 256 := by rw [← hlsp0]; exact hS.sl hsp02
  have hvsp0 : w.2 1 sp0 := hcl 11 0 (hH 11 0 (by simp [mn, tp])) (1, sp0) (by simp [mn]; omega)
  have htsp0 : p0.toNat = sp0 := by omega
  show V X _ w _ _ σ [.ref (w.1 1 sp0)]
  refine v_astore_n hX (i := 3) rfl (lv' := [(3, .ref (w.1 1 sp0)), (0, .ref (w.1 0 0)), (1, .int (iI (p0))), (2, .int (iI (p1)))]) (Nat.le_of_ble_eq_true rfl) rfl (atL dAX6_next_0 3 rfl) ?_
  refine v_aload_n hX 1 rfl (atL dAX6_next_0 4 rfl) ?_
  refine v_iload_n hX 3 rfl (atL dAX6_next_0 5 rfl) ?_
  refine v_callVX hX (As := [.int (iI (p1))]) (rest := []) (c_X6_slotAt (xl X) hst w σ hk0 p1 hp1) lk_X6_92 hk0 (fun _ => rfl) rfl rfl rfl (by rw [hR]; exact ⟨Nat.le_of_ble_eq_true rfl, Nat.le_of_ble_eq_true rfl⟩) (by rw [hR]; exact ⟨Nat.le_of_ble_eq_true rfl, Nat.le_of_ble_eq_true rfl⟩) rfl (Nat.le_of_ble_eq_true rfl) (atL dAX6_next_0 6 rfl) (fun E hE => hx E (Or.inl ⟨hE.1, Or.inl ⟨fun q => hE.2 (by omega), rfl⟩⟩) _ (Nat.le_of_ble_eq_true rfl) (Nat.le_of_ble_eq_true rfl)) (fun r2 z2 g2 => ?_)
  obtain ⟨sp1, hsp1, hsp12, ga2, gb2⟩ := g2
  rw [gb2]
  subst ga2
  have hrsp1 := hS.1 sp1 (by omega)
  obtain ⟨lsp1, hlsp1⟩ : ∃ q, (A.1 sp1).length = q := ⟨_, rfl⟩
  have hqsp1 : lsp1 ≤ 256 := by rw [← hlsp1]; exact hS.sl hsp12
  have hvsp1 : w.2 1 sp1 := hcl 11 0 (hH 11 0 (by simp [mn, tp])) (1, sp1) (by simp [mn]; omega)
  have htsp1 : p1.toNat = sp1 := by omega
  show V X _ w _ _ σ [.ref (w.1 1 sp1)]
  refine v_astore hX (lv' := [(4, .ref (w.1 1 sp1)), (3, .ref (w.1 1 sp0)), (0, .ref (w.1 0 0)), (1, .int (iI (p0))), (2, .int (iI (p1)))]) (Nat.le_of_ble_eq_true rfl) rfl (atL dAX6_next_0 7 rfl) ?_
  refine v_aload_n hX 2 rfl (atL dAX6_next_0 8 rfl) ?_
  refine gf_X6_64 hX hk0 (atL dAX6_next_0 9 rfl) ?_
  refine v_aload_n hX 1 rfl (atL dAX6_next_0 10 rfl) ?_
  refine v_callV hX (As := [.ref (w.1 1 sp0)]) (rest := []) (c_X5_read (xl X) w σ 0 (hH 3 0 (by simp [mn, tp])) (hD 0) sp0 hvsp0 (hA sp0) (by rw [hrsp0.2, hlsp0]; omega)) lk_X6_132 (hH 3 0 (by simp [mn, tp])) (fun _ => rfl) rfl rfl rfl (by rw [hR]; exact ⟨Nat.le_of_ble_eq_true rfl, Nat.le_of_ble_eq_true rfl⟩) (by rw [hR]; exact ⟨Nat.le_of_ble_eq_true rfl, Nat.le_of_ble_eq_true rfl⟩) rfl (Nat.le_of_ble_eq_true rfl) (atL dAX6_next_0 11 rfl) (fun _ s3 e3 => ?_)
  obtain ⟨hw3, hf3⟩ := e3
  rw [hrsp0.2] at hw3
  have hb3 := rv_b hrsp0.by (by rw [hlsp0]; omega)
  have hA3 := hA.fr hf3 (by simp)
  have hD3 := hD.one hf3 hw3
  have hr3_sp0 := hrsp0.fr hf3 (by simp <;> omega) (by simp <;> omega)
  have hr3_sp1 := hrsp1.fr hf3 (by simp <;> omega) (by simp <;> omega)
  have hc3_400 := hf3 4 0 (by simp <;> omega)
  have hF3 := (FH.rf : FH sp1 σ σ).tr hf3 (by simp [Hk] <;> omega)
  show V X _ w _ _ s3 []
  refine v_aload_n hX 2 rfl (atL dAX6_next_0 12 rfl) ?_
  refine gf_X6_64 hX hk0 (atL dAX6_next_0 13 rfl) ?_
  refine v_callV hX (As := []) (rest := []) (c_X5_byteLength (xl X) w s3 0 (rv (A.1 sp0)) (hH 3 0 (by simp [mn, tp])) hw3) lk_X6_157 (hH 3 0 (by simp [mn, tp])) (fun _ => rfl) rfl rfl rfl (by rw [hR]; exact ⟨Nat.le_of_ble_eq_true rfl, Nat.le_of_ble_eq_true rfl⟩) (by rw [hR]; exact ⟨Nat.le_of_ble_eq_true rfl, Nat.le_of_ble_eq_true rfl⟩) rfl (Nat.le_of_ble_eq_true rfl) (atL dAX6_next_0 14 rfl) (fun r4 z4 g4 => ?_)
  obtain ⟨ga4, gb4⟩ := g4
  rw [gb4]
  subst ga4
  have hbl4 : blen (rv (A.1 sp0)) ≤ 2240 := blen_le (WN.le hw3)
  show V X _ w _ _ s3 [.int (iI ((((blen (rv (A.1 sp0)) + 7) / 8 : Nat) : Int)))]
  refine v_bipush hX (by decide +kernel) (atL dAX6_next_0 15 rfl) ?_
  refine v_icmp_le hX ⟨by omega, by omega⟩ ⟨by omega, by omega⟩ (tgt := 36) (atL dAX6_next_0 16 rfl) (by decide) (fun h30 => ?_) (fun h30 => ?_)
  · refine v_iconst hX (atL dAX6_next_0 19 rfl) ?_
    refine v_istore hX (lv' := [(5, .int (iI (0))), (4, .ref (w.1 1 sp1)), (3, .ref (w.1 1 sp0)), (0, .ref (w.1 0 0)), (1, .int (iI (p0))), (2, .int (iI (p1)))]) (Nat.le_of_ble_eq_true rfl) rfl (atL dAX6_next_0 20 rfl) ?_
    have hv64 : rv (A.1 sp0) < 2 ^ 512 := Nat.lt_of_lt_of_le (blen_lt _) (Nat.pow_le_pow_right (by omega) (by omega))
    have loop : ∀ (d j : Nat) (s : St), j + d = 2000 → WN s 0 (rv (A.1 sp0) + j) → (∀ i, i < j → ¬ PB (rv (A.1 sp0) + i + 1)) → RW s sp1 (A.1 sp1) → AR s → AD s → FH sp1 σ s → V X (0 + 1 + 1, 0 + 6 + 6) w 39 [(5, .int (iI ((j : Int)))), (0, .ref (w.1 0 0)), (1, .int (iI (p0))), (2, .int (iI (p1))), (3, .ref (w.1 1 sp0)), (4, .ref (w.1 1 sp1))] s [] := by
      intro d
      induction d with
      | zero =>
        intro j s hj hw hn hr1 hA1 hD1 hF1
        obtain rfl : j = 2000 := by omega
        refine v_iload hX 0 rfl (atL dAX6_next_0 21 rfl) ?_
        refine v_sipush hX (by decide +kernel) (atL dAX6_next_0 22 rfl) ?_
        refine v_icmp_ge hX ⟨by omega, by omega⟩ ⟨by omega, by omega⟩ (tgt := 86) (atL dAX6_next_0 23 rfl) (by decide) (fun h44 => ?_) (fun h44 => absurd h44 (by omega))
        refine v_iconst hX (atL dAX6_next_0 42 rfl) ?_
        exact v_iret hX (atL dAX6_next_0 43 rfl) (hret _ _ ⟨A, Or.inr (Or.inr (Or.inr ⟨by omega, by rw [htsp0]; unfold nby; omega, by rw [htsp0]; exact hn, rfl⟩)), hS.keepT hF1 hA1 hD1 hr1, hF1.fm⟩ _ (Nat.le_of_ble_eq_true rfl) (Nat.le_of_ble_eq_true rfl))
      | succ d ih =>
        intro j s hj hw hn hr1 hA1 hD1 hF1
        refine v_iload hX 0 rfl (atL dAX6_next_0 21 rfl) ?_
        refine v_sipush hX (by decide +kernel) (atL dAX6_next_0 22 rfl) ?_
        refine v_icmp_ge hX ⟨by omega, by omega⟩ ⟨by omega, by omega⟩ (tgt := 86) (atL dAX6_next_0 23 rfl) (by decide) (fun h44 => absurd h44 (by omega)) (fun h44 => ?_)
        refine v_aload_n hX 1 rfl (atL dAX6_next_0 24 rfl) ?_
        refine gf_X6_64 hX hk0 (atL dAX6_next_0 25 rfl) ?_
        refine v_iconst hX (atL dAX6_next_0 26 rfl) ?_
        refine v_callV hX (As := [.int (iI (1))]) (rest := []) (c_X5_addSmall (xl X) w s 0 (rv (A.1 sp0) + j) (hH 3 0 (by simp [mn, tp])) hw (lt79 (small_add hv64 (by omega)))) lk_X6_160 (hH 3 0 (by simp [mn, tp])) (fun _ => rfl) rfl rfl rfl (by rw [hR]; exact ⟨Nat.le_of_ble_eq_true rfl, Nat.le_of_ble_eq_true rfl⟩) (by rw [hR]; exact ⟨Nat.le_of_ble_eq_true rfl, Nat.le_of_ble_eq_true rfl⟩) rfl (Nat.le_of_ble_eq_true rfl) (atL dAX6_next_0 27 rfl) (fun _ s5 e5 => ?_)
        obtain ⟨hw5, hf5⟩ := e5
        have hA5 := hA1.fr hf5 (by simp)
        have hD5 := hD1.one hf5 hw5
        have hr5_sp1 := hr1.fr hf5 (by simp <;> omega) (by simp <;> omega)
        have hF5 := hF1.tr hf5 (by simp [Hk] <;> omega)
        show V X _ w _ _ s5 []
        refine v_aload_n hX 1 rfl (atL dAX6_next_0 28 rfl) ?_
        refine gf_X6_35 hX hk0 (atL dAX6_next_0 29 rfl) ?_
        refine v_aload_n hX 1 rfl (atL dAX6_next_0 30 rfl) ?_
        refine gf_X6_64 hX hk0 (atL dAX6_next_0 31 rfl) ?_
        refine v_callV hX (As := [.ref (w.1 3 0)]) (rest := []) (c_X0_isProbable (xl X) w s5 (hH 7 0 (by simp [mn, tp])) 0 (rv (A.1 sp0) + j + 1) (hH 3 0 (by simp [mn, tp])) hw5 (by omega) hD5) lk_X6_153 (hH 7 0 (by simp [mn, tp])) (fun _ => rfl) rfl rfl rfl (by rw [hR]; exact ⟨Nat.le_of_ble_eq_true rfl, Nat.le_of_ble_eq_true rfl⟩) (by rw [hR]; exact ⟨Nat.le_of_ble_eq_true rfl, Nat.le_of_ble_eq_true rfl⟩) rfl (Nat.le_of_ble_eq_true rfl) (atL dAX6_next_0 32 rfl) (fun r6 s6 e6 => ?_)
        obtain ⟨gc6, hDp6, hf6⟩ := e6
        have gd6 : r6 = 0 ∨ r6 = 1 := by rcases gc6 with q | q <;> omega
        have hA6 := hA5.fr hf6 (by simp)
        have hD6 := hDp6
        have hr6_sp1 := hr5_sp1.fr hf6 (by simp <;> omega) (by simp <;> omega)
        have hw6_0 := nm.fr hw5 hf6 (by simp <;> omega) (by simp <;> omega)
        have hF6 := hF5.tr hf6 (by simp [Hk] <;> omega)
        show V X _ w _ _ s6 [.int (iI (r6))]
        refine v_if_eq hX ⟨by omega, by omega⟩ (tgt := 80) (atL dAX6_next_0 33 rfl) (by decide) (fun h66 => ?_) (fun h66 => ?_)
        · refine v_iinc hX (lv' := [(5, .int (iI (((j : Int)) + 1))), (0, .ref (w.1 0 0)), (1, .int (iI (p0))), (2, .int (iI (p1))), (3, .ref (w.1 1 sp0)), (4, .ref (w.1 1 sp1))]) 0 rfl (iI_add _ _) (Nat.le_of_ble_eq_true rfl) rfl (atL dAX6_next_0 40 rfl) ?_
          refine v_goto hX (tgt := 39) (atL dAX6_next_0 41 rfl) (by decide) ?_
          refine v_sub (lv' := [(5, .int (iI (((j : Int)) + 1))), (0, .ref (w.1 0 0)), (1, .int (iI (p0))), (2, .int (iI (p1))), (3, .ref (w.1 1 sp0)), (4, .ref (w.1 1 sp1))]) [0, 1, 2, 3, 4, 5] rfl ?_
          rw [show (j : Int) + 1 = ((j + 1 : Nat) : Int) by omega]
          exact ih (j + 1) _ (by omega) hw6_0 (fun i hi => by rcases Nat.lt_or_ge i j with c | c; exact hn i c; rw [show i = j by omega]; exact gc6.f h66) hr6_sp1 hA6 hD6 hF6
        · refine v_aload_n hX 1 rfl (atL dAX6_next_0 34 rfl) ?_
          refine v_aload_n hX 1 rfl (atL dAX6_next_0 35 rfl) ?_
          refine gf_X6_64 hX hk0 (atL dAX6_next_0 36 rfl) ?_
          refine v_aload hX 5 rfl (atL dAX6_next_0 37 rfl) ?_
          refine v_callV hX (As := [.ref (w.1 3 0), .ref (w.1 1 sp1)]) (rest := []) (c_X6_putFewest (xl X) w s6 hk0 hA6 hD6 0 (rv (A.1 sp0) + j + 1) (hH 3 0 (by simp [mn, tp])) hw6_0 sp1 hvsp1 (by omega)) lk_X6_141 hk0 (fun _ => rfl) rfl rfl rfl (by rw [hR]; exact ⟨Nat.le_of_ble_eq_true rfl, Nat.le_of_ble_eq_true rfl⟩) (by rw [hR]; exact ⟨Nat.le_of_ble_eq_true rfl, Nat.le_of_ble_eq_true rfl⟩) rfl (Nat.le_of_ble_eq_true rfl) (atL dAX6_next_0 38 rfl) (fun r7 s7 e7 => ?_)
          obtain ⟨gc7, gA7, gD7, gF7⟩ := e7
          have hF7 := hF6.tr2 gF7
          show V X _ w _ _ s7 [.int (iI (r7))]
          exact v_iret hX (atL dAX6_next_0 39 rfl) (hret _ _ (by obtain ⟨A', e1, e2, e3⟩ := putR_post (f := putR A sp1 (rv (A.1 sp0) + j + 1)) rfl hS hF7 gA7 gD7 gc7 hr6_sp1; exact ⟨A', Or.inr (Or.inr (Or.inl ⟨by omega, by rw [htsp0]; unfold nby; omega, j, by omega, by rw [htsp0]; exact gc6.t h66, by rw [htsp0]; exact hn, by rw [htsp0, htsp1, e1]⟩)), e2, e3⟩) _ (Nat.le_of_ble_eq_true rfl) (Nat.le_of_ble_eq_true rfl))
    refine v_sub (lv' := [(5, .int (iI (0))), (0, .ref (w.1 0 0)), (1, .int (iI (p0))), (2, .int (iI (p1))), (3, .ref (w.1 1 sp0)), (4, .ref (w.1 1 sp1))]) [0, 3, 4, 5, 2, 1] rfl ?_
    exact loop 2000 0 s3 (by omega) (by rw [Nat.add_zero]; exact hw3) (fun i hi => absurd hi (by omega)) hr3_sp1 hA3 hD3 hF3
  · refine v_bipush hX (by decide +kernel) (atL dAX6_next_0 17 rfl) ?_
    exact v_iret hX (atL dAX6_next_0 18 rfl) (hret _ _ ⟨A, Or.inr (Or.inl ⟨by omega, by rw [htsp0]; unfold nby; omega, rfl⟩), hS.keepT hF3 hA3 hD3 hr3_sp1, hF3.fm⟩ _ (Nat.le_of_ble_eq_true rfl) (Nat.le_of_ble_eq_true rfl))

set_option maxHeartbeats 1000000 in
set_option maxRecDepth 100000 in
theorem c_X6_digest (l : Launch) (hst : l.stackTraces = false) (w : Wl) (σ : St) (hk0 : w.2 0 0) (A : Ab) (hS : HS σ A) (p0 : Int) (hp0 : rI p0) (p1 : Int) (hp1 : rI p1) (p2 : Int) (hp2 : rI p2) : Cx l yX6_digest cX6_digest 6 (Option.some Jvm.ClassFile.FieldType.int) 7 103 3 18 wI [.ref (w.1 0 0), .int (iI (p0)), .int (iI (p1)), .int (iI (p2))] w σ (fun a σ' => ∃ A', f_digest A p0 p1 p2 = (0, a, A') ∧ HS σ' A' ∧ FM σ σ') (Xc (f_digest A p0 p1 p2) A) := by
  refine Cx.of (own := RX6) (lv := [(0, .ref (w.1 0 0)), (1, .int (iI (p0))), (2, .int (iI (p1))), (3, .int (iI (p2)))]) (by decide +kernel) rfl (Nat.le_of_ble_eq_true rfl) rfl (fun X hX hxl hR hcl hret hx => ?_)
  subst hxl
  have hH : ∀ c q, (c, q) ∈ mn σ 0 0 → w.2 c q := fun c q h => hcl 0 0 hk0 (c, q) h
  have hp0a := hp0.1
  have hp0b := hp0.2
  have hp1a := hp1.1
  have hp1b := hp1.2
  have hp2a := hp2.1
  have hp2b := hp2.2
  have hA := hS.2.1
  have hD := hS.2.2.1
  refine v_aload_n hX 0 rfl (atL dAX6_digest_0 0 rfl) ?_
  refine v_iload_n hX 2 rfl (atL dAX6_digest_0 1 rfl) ?_
  refine v_callVX hX (As := [.int (iI (p1))]) (rest := []) (c_X6_slotAt (xl X) hst w σ hk0 p1 hp1) lk_X6_92 hk0 (fun _ => rfl) rfl rfl rfl (by rw [hR]; exact ⟨Nat.le_of_ble_eq_true rfl, Nat.le_of_ble_eq_true rfl⟩) (by rw [hR]; exact ⟨Nat.le_of_ble_eq_true rfl, Nat.le_of_ble_eq_true rfl⟩) rfl (Nat.le_of_ble_eq_true rfl) (atL dAX6_digest_0 2 rfl) (fun E hE => hx E (Or.inl ⟨hE.1, by unfold f_digest; exact if_pos (fun q => hE.2 (by omega))⟩) _ (Nat.le_of_ble_eq_true rfl) (Nat.le_of_ble_eq_true rfl)) (fun r1 z1 g1 => ?_)
  obtain ⟨sp1, hsp1, hsp12, ga1, gb1⟩ := g1
  rw [gb1]
  subst ga1
  have hrsp1 := hS.1 sp1 (by omega)
  obtain ⟨lsp1, hlsp1⟩ : ∃ q, (A.1 sp1).length = q := ⟨_, rfl⟩
  have hqsp1 : lsp1 ≤ 256 := by rw [← hlsp1]; exact hS.sl hsp12
  have hvsp1 : w.2 1 sp1 := hcl 11 0 (hH 11 0 (by simp [mn, tp])) (1, sp1) (by simp [mn]; omega)
  have htsp1 : p1.toNat = sp1 := by omega
  show V X _ w _ _ σ [.ref (w.1 1 sp1)]
  refine v_astore hX (lv' := [(4, .ref (w.1 1 sp1)), (0, .ref (w.1 0 0)), (1, .int (iI (p0))), (2, .int (iI (p1))), (3, .int (iI (p2)))]) (Nat.le_of_ble_eq_true rfl) rfl (atL dAX6_digest_0 3 rfl) ?_
  refine v_aload_n hX 1 rfl (atL dAX6_digest_0 4 rfl) ?_
  refine v_iload_n hX 4 rfl (atL dAX6_digest_0 5 rfl) ?_
  refine v_callVX hX (As := [.int (iI (p2))]) (rest := []) (c_X6_slotAt (xl X) hst w σ hk0 p2 hp2) lk_X6_92 hk0 (fun _ => rfl) rfl rfl rfl (by rw [hR]; exact ⟨Nat.le_of_ble_eq_true rfl, Nat.le_of_ble_eq_true rfl⟩) (by rw [hR]; exact ⟨Nat.le_of_ble_eq_true rfl, Nat.le_of_ble_eq_true rfl⟩) rfl (Nat.le_of_ble_eq_true rfl) (atL dAX6_digest_0 6 rfl) (fun E hE => hx E (Or.inl ⟨hE.1, by unfold f_digest; exact if_pos (fun q => hE.2 (by omega))⟩) _ (Nat.le_of_ble_eq_true rfl) (Nat.le_of_ble_eq_true rfl)) (fun r2 z2 g2 => ?_)
  obtain ⟨sp2, hsp2, hsp22, ga2, gb2⟩ := g2
  rw [gb2]
  subst ga2
  have hrsp2 := hS.1 sp2 (by omega)
  obtain ⟨lsp2, hlsp2⟩ : ∃ q, (A.1 sp2).length = q := ⟨_, rfl⟩
  have hqsp2 : lsp2 ≤ 256 := by rw [← hlsp2]; exact hS.sl hsp22
  have hvsp2 : w.2 1 sp2 := hcl 11 0 (hH 11 0 (by simp [mn, tp])) (1, sp2) (by simp [mn]; omega)
  have htsp2 : p2.toNat = sp2 := by omega
  show V X _ w _ _ σ [.ref (w.1 1 sp2)]
  refine v_astore hX (lv' := [(5, .ref (w.1 1 sp2)), (4, .ref (w.1 1 sp1)), (0, .ref (w.1 0 0)), (1, .int (iI (p0))), (2, .int (iI (p1))), (3, .int (iI (p2)))]) (Nat.le_of_ble_eq_true rfl) rfl (atL dAX6_digest_0 7 rfl) ?_
  refine v_aload_n hX 2 rfl (atL dAX6_digest_0 8 rfl) ?_
  refine v_iload_n hX 3 rfl (atL dAX6_digest_0 9 rfl) ?_
  refine v_callVX hX (As := [.int (iI (p0))]) (rest := []) (c_X6_checkHash (xl X) hst w σ hk0 p0 hp0) lk_X6_163 hk0 (fun _ => rfl) rfl rfl rfl (by rw [hR]; exact ⟨Nat.le_of_ble_eq_true rfl, Nat.le_of_ble_eq_true rfl⟩) (by rw [hR]; exact ⟨Nat.le_of_ble_eq_true rfl, Nat.le_of_ble_eq_true rfl⟩) rfl (Nat.le_of_ble_eq_true rfl) (atL dAX6_digest_0 10 rfl) (fun E hE => hx E (Or.inr ⟨hE.1, by unfold f_digest; rw [if_neg (by omega)]; exact if_pos (by have := hE.2; omega)⟩) _ (Nat.le_of_ble_eq_true rfl) (Nat.le_of_ble_eq_true rfl)) (fun r3 z3 g3 => ?_)
  obtain ⟨hHs, gb3⟩ := g3
  rw [gb3]
  have hll := hl_le p0
  have hlg := hl_ge p0
  show V X _ w _ _ σ []
  refine v_aload_n hX 2 rfl (atL dAX6_digest_0 11 rfl) ?_
  refine gf_X6_55 hX hk0 (atL dAX6_digest_0 12 rfl) ?_
  refine v_iconst hX (atL dAX6_digest_0 13 rfl) ?_
  refine pf_X6_86 hX (hH 1 25 (by simp [mn, tp])) (atL dAX6_digest_0 14 rfl) ?_
  rw [sr_nil]
  obtain ⟨hr4, hf4⟩ := RW_of (s := sr σ 25 []) (hA 25) rfl (by simp) BY.nil
  generalize sr σ 25 [] = s4 at hr4 hf4 ⊢
  have hl4 : ([] : List Nat).length = 0 := rfl
  have hA4 := hA.one hr4 hf4 (by simp)
  have hD4 := hD.fr hf4 (by simp)
  have hr4_sp1 := hrsp1.fr hf4 (by simp <;> omega) (by simp <;> omega)
  have hr4_sp2 := hrsp2.fr hf4 (by simp <;> omega) (by simp <;> omega)
  have hc4_400 := hf4 4 0 (by simp <;> omega)
  have hF4 := (FH.rf : FH sp2 σ σ).tr hf4 (by simp [Hk] <;> omega)
  refine v_aload_n hX 2 rfl (atL dAX6_digest_0 15 rfl) ?_
  refine gf_X6_42 hX hk0 (atL dAX6_digest_0 16 rfl) ?_
  refine v_iload_n hX 3 rfl (atL dAX6_digest_0 17 rfl) ?_
  refine v_aload hX 1 rfl (atL dAX6_digest_0 18 rfl) ?_
  refine v_aload_n hX 2 rfl (atL dAX6_digest_0 19 rfl) ?_
  refine gf_X6_55 hX hk0 (atL dAX6_digest_0 20 rfl) ?_
  refine v_callV hX (As := [.int (iI (p0)), .ref (w.1 1 sp1), .ref (w.1 1 25)]) (rest := []) (c_X1_addDigest (xl X) w s4 (hH 8 0 (by simp [mn, tp])) p0 hp0 sp1 hvsp1 (hA4 sp1) 25 (hH 1 25 (by simp [mn, tp])) (hA4 25) (by rw [hr4.2, hl4]; show _ ≤ 256; omega)) lk_X6_166 (hH 8 0 (by simp [mn, tp])) (fun _ => rfl) rfl rfl rfl (by rw [hR]; exact ⟨Nat.le_of_ble_eq_true rfl, Nat.le_of_ble_eq_true rfl⟩) (by rw [hR]; exact ⟨Nat.le_of_ble_eq_true rfl, Nat.le_of_ble_eq_true rfl⟩) rfl (Nat.le_of_ble_eq_true rfl) (atL dAX6_digest_0 21 rfl) (fun _ s5 e5 => ?_)
  obtain ⟨hr5, hf5⟩ := e5
  rw [hr4.2, hr4_sp1.2] at hr5
  rw [List.nil_append] at hr5
  have hl5 : (sha p0 (A.1 sp1)).length = hl p0 := by exact sha_len
  have hA5 := hA4.one hr5 hf5 (by simp)
  have hD5 := hD4.fr hf5 (by simp)
  have hr5_sp1 := hr4_sp1.fr hf5 (by simp <;> omega) (by simp <;> omega)
  have hr5_sp2 := hr4_sp2.fr hf5 (by simp <;> omega) (by simp <;> omega)
  have hc5_400 := hf5 4 0 (by simp <;> omega)
  have hF5 := hF4.tr hf5 (by simp [Hk] <;> omega)
  show V X _ w _ _ s5 []
  refine v_aload hX 0 rfl (atL dAX6_digest_0 22 rfl) ?_
  refine v_aload_n hX 2 rfl (atL dAX6_digest_0 23 rfl) ?_
  refine gf_X6_55 hX hk0 (atL dAX6_digest_0 24 rfl) ?_
  refine v_callV hX (As := [.ref (w.1 1 25)]) (rest := []) (c_X4_take (xl X) w s5 sp2 hvsp2 (hA5 sp2) 25 (hH 1 25 (by simp [mn, tp])) (hA5 25) (by omega) (by rw [hr5.2, hl5]; rw [rcap_s (by omega)]; omega)) lk_X6_117 hvsp2 (fun _ => rfl) rfl rfl rfl (by rw [hR]; exact ⟨Nat.le_of_ble_eq_true rfl, Nat.le_of_ble_eq_true rfl⟩) (by rw [hR]; exact ⟨Nat.le_of_ble_eq_true rfl, Nat.le_of_ble_eq_true rfl⟩) rfl (Nat.le_of_ble_eq_true rfl) (atL dAX6_digest_0 25 rfl) (fun _ s6 e6 => ?_)
  rw [hr5.2] at e6
  have hl6 : (sha p0 (A.1 sp1)).length = hl p0 := by rw [hl5]
  obtain ⟨hr6, hf6⟩ := RW_of (M := sha p0 (A.1 sp1)) (hA5 sp2) e6 (by rw [hl6]; rw [rcap_s (by omega)]; omega) (hr5.by)
  have hA6 := hA5.one hr6 hf6 (by simp)
  have hD6 := hD5.fr hf6 (by simp)
  have hr6_25 := hr5.fr hf6 (by simp <;> omega) (by simp <;> omega)
  have hc6_400 := hf6 4 0 (by simp <;> omega)
  have hF6 := hF5.tr hf6 (by simp [Hk] <;> omega)
  show V X _ w _ _ s6 []
  refine v_aload hX 0 rfl (atL dAX6_digest_0 26 rfl) ?_
  refine gf_X6_86 hX (v := ((hl p0 : Nat) : Int)) ((hr6.len.trans (by rw [hl6]))) hvsp2 (atL dAX6_digest_0 27 rfl) ?_
  exact v_iret hX (atL dAX6_digest_0 28 rfl) (hret _ _ ⟨A.put sp2 (sha p0 (A.1 sp1)), by unfold f_digest; simp only [htsp1, htsp2]; rw [if_neg (by omega), if_neg (by omega)], hS.put hF6 hA6 hD6 hr6, hF6.fm⟩ _ (Nat.le_of_ble_eq_true rfl) (Nat.le_of_ble_eq_true rfl))

set_option maxHeartbeats 1000000 in
set_option maxRecDepth 100000 in
theorem c_X6_mask (l : Launch) (hst : l.stackTraces = false) (w : Wl) (σ : St) (hk0 : w.2 0 0) (A : Ab) (hS : HS σ A) (p0 : Int) (hp0 : rI p0) (p1 : Int) (hp1 : rI p1) (p2 : Int) (hp2 : rI p2) (p3 : Int) (hp3 : rI p3) : Cx l yX6_mask cX6_mask 7 (Option.some Jvm.ClassFile.FieldType.int) 7 122 4 24 wI [.ref (w.1 0 0), .int (iI (p0)), .int (iI (p1)), .int (iI (p2)), .int (iI (p3))] w σ (fun a σ' => ∃ A', f_mask A p0 p1 p2 p3 = (0, a, A') ∧ HS σ' A' ∧ FM σ σ') (Xc (f_mask A p0 p1 p2 p3) A) := by
  refine Cx.of (own := RX6) (lv := [(0, .ref (w.1 0 0)), (1, .int (iI (p0))), (2, .int (iI (p1))), (3, .int (iI (p2))), (4, .int (iI (p3)))]) (by decide +kernel) rfl (Nat.le_of_ble_eq_true rfl) rfl (fun X hX hxl hR hcl hret hx => ?_)
  subst hxl
  have hH : ∀ c q, (c, q) ∈ mn σ 0 0 → w.2 c q := fun c q h => hcl 0 0 hk0 (c, q) h
  have hp0a := hp0.1
  have hp0b := hp0.2
  have hp1a := hp1.1
  have hp1b := hp1.2
  have hp2a := hp2.1
  have hp2b := hp2.2
  have hp3a := hp3.1
  have hp3b := hp3.2
  have hA := hS.2.1
  have hD := hS.2.2.1
  refine v_aload_n hX 0 rfl (atL dAX6_mask_0 0 rfl) ?_
  refine v_iload_n hX 2 rfl (atL dAX6_mask_0 1 rfl) ?_
  refine v_callVX hX (As := [.int (iI (p1))]) (rest := []) (c_X6_slotAt (xl X) hst w σ hk0 p1 hp1) lk_X6_92 hk0 (fun _ => rfl) rfl rfl rfl (by rw [hR]; exact ⟨Nat.le_of_ble_eq_true rfl, Nat.le_of_ble_eq_true rfl⟩) (by rw [hR]; exact ⟨Nat.le_of_ble_eq_true rfl, Nat.le_of_ble_eq_true rfl⟩) rfl (Nat.le_of_ble_eq_true rfl) (atL dAX6_mask_0 2 rfl) (fun E hE => hx E (Or.inl ⟨hE.1, by unfold f_mask; exact if_pos (fun q => hE.2 (by omega))⟩) _ (Nat.le_of_ble_eq_true rfl) (Nat.le_of_ble_eq_true rfl)) (fun r1 z1 g1 => ?_)
  obtain ⟨sp1, hsp1, hsp12, ga1, gb1⟩ := g1
  rw [gb1]
  subst ga1
  have hrsp1 := hS.1 sp1 (by omega)
  obtain ⟨lsp1, hlsp1⟩ : ∃ q, (A.1 sp1).length = q := ⟨_, rfl⟩
  have hqsp1 : lsp1 ≤ 256 := by rw [← hlsp1]; exact hS.sl hsp12
  have hvsp1 : w.2 1 sp1 := hcl 11 0 (hH 11 0 (by simp [mn, tp])) (1, sp1) (by simp [mn]; omega)
  have htsp1 : p1.toNat = sp1 := by omega
  show V X _ w _ _ σ [.ref (w.1 1 sp1)]
  refine v_astore hX (lv' := [(5, .ref (w.1 1 sp1)), (0, .ref (w.1 0 0)), (1, .int (iI (p0))), (2, .int (iI (p1))), (3, .int (iI (p2))), (4, .int (iI (p3)))]) (Nat.le_of_ble_eq_true rfl) rfl (atL dAX6_mask_0 3 rfl) ?_
  refine v_aload_n hX 1 rfl (atL dAX6_mask_0 4 rfl) ?_
  refine v_iload hX 5 rfl (atL dAX6_mask_0 5 rfl) ?_
  refine v_callVX hX (As := [.int (iI (p3))]) (rest := []) (c_X6_slotAt (xl X) hst w σ hk0 p3 hp3) lk_X6_92 hk0 (fun _ => rfl) rfl rfl rfl (by rw [hR]; exact ⟨Nat.le_of_ble_eq_true rfl, Nat.le_of_ble_eq_true rfl⟩) (by rw [hR]; exact ⟨Nat.le_of_ble_eq_true rfl, Nat.le_of_ble_eq_true rfl⟩) rfl (Nat.le_of_ble_eq_true rfl) (atL dAX6_mask_0 6 rfl) (fun E hE => hx E (Or.inl ⟨hE.1, by unfold f_mask; exact if_pos (fun q => hE.2 (by omega))⟩) _ (Nat.le_of_ble_eq_true rfl) (Nat.le_of_ble_eq_true rfl)) (fun r2 z2 g2 => ?_)
  obtain ⟨sp3, hsp3, hsp32, ga2, gb2⟩ := g2
  rw [gb2]
  subst ga2
  have hrsp3 := hS.1 sp3 (by omega)
  obtain ⟨lsp3, hlsp3⟩ : ∃ q, (A.1 sp3).length = q := ⟨_, rfl⟩
  have hqsp3 : lsp3 ≤ 256 := by rw [← hlsp3]; exact hS.sl hsp32
  have hvsp3 : w.2 1 sp3 := hcl 11 0 (hH 11 0 (by simp [mn, tp])) (1, sp3) (by simp [mn]; omega)
  have htsp3 : p3.toNat = sp3 := by omega
  show V X _ w _ _ σ [.ref (w.1 1 sp3)]
  refine v_astore hX (lv' := [(6, .ref (w.1 1 sp3)), (5, .ref (w.1 1 sp1)), (0, .ref (w.1 0 0)), (1, .int (iI (p0))), (2, .int (iI (p1))), (3, .int (iI (p2))), (4, .int (iI (p3)))]) (Nat.le_of_ble_eq_true rfl) rfl (atL dAX6_mask_0 7 rfl) ?_
  refine v_aload_n hX 2 rfl (atL dAX6_mask_0 8 rfl) ?_
  refine v_iload_n hX 3 rfl (atL dAX6_mask_0 9 rfl) ?_
  refine v_callVX hX (As := [.int (iI (p0))]) (rest := []) (c_X6_checkHash (xl X) hst w σ hk0 p0 hp0) lk_X6_163 hk0 (fun _ => rfl) rfl rfl rfl (by rw [hR]; exact ⟨Nat.le_of_ble_eq_true rfl, Nat.le_of_ble_eq_true rfl⟩) (by rw [hR]; exact ⟨Nat.le_of_ble_eq_true rfl, Nat.le_of_ble_eq_true rfl⟩) rfl (Nat.le_of_ble_eq_true rfl) (atL dAX6_mask_0 10 rfl) (fun E hE => hx E (Or.inr ⟨hE.1, by unfold f_mask; rw [if_neg (by omega)]; exact if_pos (by have := hE.2; omega)⟩) _ (Nat.le_of_ble_eq_true rfl) (Nat.le_of_ble_eq_true rfl)) (fun r3 z3 g3 => ?_)
  obtain ⟨hHs, gb3⟩ := g3
  rw [gb3]
  have hll := hl_le p0
  have hlg := hl_ge p0
  show V X _ w _ _ σ []
  refine v_iload_n hX 5 rfl (atL dAX6_mask_0 11 rfl) ?_
  refine v_if_lt hX ⟨by omega, by omega⟩ (tgt := 31) (atL dAX6_mask_0 12 rfl) (by decide) (fun h21 => ?_) (fun h21 => ?_)
  · exact v_throwS hX hst wd_317 xi_A (List.mem_of_getElem? (i := 6) rfl) xg_A xl_A xn_A (by decide +kernel) (atL dAX6_mask_0 16 rfl) (atL dAX6_mask_0 17 rfl) (atL dAX6_mask_0 18 rfl) (atL dAX6_mask_0 19 rfl) (atL dAX6_mask_0 20 rfl) (by rw [hR]; exact ⟨Nat.le_of_ble_eq_true rfl, Nat.le_of_ble_eq_true rfl⟩) (by rw [hR]; exact ⟨Nat.le_of_ble_eq_true rfl, Nat.le_of_ble_eq_true rfl⟩) (hx _ (Or.inr ⟨rfl, by unfold f_mask; rw [if_neg (by omega), if_pos (by omega)]⟩) _ (Nat.le_of_ble_eq_true rfl) (Nat.le_of_ble_eq_true rfl))
  · refine v_iload_n hX 5 rfl (atL dAX6_mask_0 13 rfl) ?_
    refine v_sipush hX (by decide +kernel) (atL dAX6_mask_0 14 rfl) ?_
    refine v_icmp_le hX ⟨by omega, by omega⟩ ⟨by omega, by omega⟩ (tgt := 41) (atL dAX6_mask_0 15 rfl) (by decide) (fun h28 => ?_) (fun h28 => ?_)
    · obtain ⟨i2, rfl⟩ : ∃ q : Nat, p2 = (q : Int) := ⟨p2.toNat, by omega⟩
      refine v_aload_n hX 2 rfl (atL dAX6_mask_0 21 rfl) ?_
      refine gf_X6_42 hX hk0 (atL dAX6_mask_0 22 rfl) ?_
      refine v_iload_n hX 3 rfl (atL dAX6_mask_0 23 rfl) ?_
      refine v_aload hX 1 rfl (atL dAX6_mask_0 24 rfl) ?_
      refine v_iload_n hX 5 rfl (atL dAX6_mask_0 25 rfl) ?_
      refine v_aload_n hX 2 rfl (atL dAX6_mask_0 26 rfl) ?_
      refine gf_X6_55 hX hk0 (atL dAX6_mask_0 27 rfl) ?_
      refine v_callV hX (As := [.int (iI (p0)), .ref (w.1 1 sp1), .int (iI ((i2 : Int))), .ref (w.1 1 25)]) (rest := []) (c_X1_setMask (xl X) w σ (hH 8 0 (by simp [mn, tp])) hA p0 hp0 sp1 hvsp1 (by rw [hrsp1.2, hlsp1]; omega) i2 25 (hH 1 25 (by simp [mn, tp])) (by show _ ≤ 256; omega) (by omega) (by omega) (by omega) (by omega) (by omega)) lk_X6_172 (hH 8 0 (by simp [mn, tp])) (fun _ => rfl) rfl rfl rfl (by rw [hR]; exact ⟨Nat.le_of_ble_eq_true rfl, Nat.le_of_ble_eq_true rfl⟩) (by rw [hR]; exact ⟨Nat.le_of_ble_eq_true rfl, Nat.le_of_ble_eq_true rfl⟩) rfl (Nat.le_of_ble_eq_true rfl) (atL dAX6_mask_0 28 rfl) (fun _ s4 e4 => ?_)
      obtain ⟨hr4, hB4, hf4⟩ := e4
      rw [hrsp1.2] at hr4
      have hl4 : (msk p0 (A.1 sp1) i2).length = i2 := by exact msk_len
      have hA4 := hB4
      have hD4 := hD.fr hf4 (by simp [SM])
      have hr4_sp1 := hrsp1.fr hf4 (by simp [SM] <;> omega) (by simp [SM] <;> omega)
      have hr4_sp3 := hrsp3.fr hf4 (by simp [SM] <;> omega) (by simp [SM] <;> omega)
      have hc4_400 := hf4 4 0 (by simp [SM] <;> omega)
      have hF4 := (FH.rf : FH sp3 σ σ).tr hf4 (by simp [Hk, SM] <;> omega)
      show V X _ w _ _ s4 []
      refine v_aload hX 0 rfl (atL dAX6_mask_0 29 rfl) ?_
      refine v_aload_n hX 2 rfl (atL dAX6_mask_0 30 rfl) ?_
      refine gf_X6_55 hX hk0 (atL dAX6_mask_0 31 rfl) ?_
      refine v_callV hX (As := [.ref (w.1 1 25)]) (rest := []) (c_X4_take (xl X) w s4 sp3 hvsp3 (hA4 sp3) 25 (hH 1 25 (by simp [mn, tp])) (hA4 25) (by omega) (by rw [hr4.2, hl4]; rw [rcap_s (by omega)]; omega)) lk_X6_117 hvsp3 (fun _ => rfl) rfl rfl rfl (by rw [hR]; exact ⟨Nat.le_of_ble_eq_true rfl, Nat.le_of_ble_eq_true rfl⟩) (by rw [hR]; exact ⟨Nat.le_of_ble_eq_true rfl, Nat.le_of_ble_eq_true rfl⟩) rfl (Nat.le_of_ble_eq_true rfl) (atL dAX6_mask_0 32 rfl) (fun _ s5 e5 => ?_)
      rw [hr4.2] at e5
      have hl5 : (msk p0 (A.1 sp1) i2).length = i2 := by rw [hl4]
      obtain ⟨hr5, hf5⟩ := RW_of (M := msk p0 (A.1 sp1) i2) (hA4 sp3) e5 (by rw [hl5]; rw [rcap_s (by omega)]; omega) (hr4.by)
      have hA5 := hA4.one hr5 hf5 (by simp)
      have hD5 := hD4.fr hf5 (by simp)
      have hr5_25 := hr4.fr hf5 (by simp <;> omega) (by simp <;> omega)
      have hc5_400 := hf5 4 0 (by simp <;> omega)
      have hF5 := hF4.tr hf5 (by simp [Hk] <;> omega)
      show V X _ w _ _ s5 []
      refine v_iload_n hX 5 rfl (atL dAX6_mask_0 33 rfl) ?_
      exact v_iret hX (atL dAX6_mask_0 34 rfl) (hret _ _ ⟨A.put sp3 (msk p0 (A.1 sp1) i2), by unfold f_mask; simp only [htsp1, htsp3, Int.toNat_natCast]; rw [if_neg (by omega), if_neg (by omega)], hS.put hF5 hA5 hD5 hr5, hF5.fm⟩ _ (Nat.le_of_ble_eq_true rfl) (Nat.le_of_ble_eq_true rfl))
    · exact v_throwS hX hst wd_317 xi_A (List.mem_of_getElem? (i := 6) rfl) xg_A xl_A xn_A (by decide +kernel) (atL dAX6_mask_0 16 rfl) (atL dAX6_mask_0 17 rfl) (atL dAX6_mask_0 18 rfl) (atL dAX6_mask_0 19 rfl) (atL dAX6_mask_0 20 rfl) (by rw [hR]; exact ⟨Nat.le_of_ble_eq_true rfl, Nat.le_of_ble_eq_true rfl⟩) (by rw [hR]; exact ⟨Nat.le_of_ble_eq_true rfl, Nat.le_of_ble_eq_true rfl⟩) (hx _ (Or.inr ⟨rfl, by unfold f_mask; rw [if_neg (by omega), if_pos (by omega)]⟩) _ (Nat.le_of_ble_eq_true rfl) (Nat.le_of_ble_eq_true rfl))

set_option maxHeartbeats 1000000 in
set_option maxRecDepth 100000 in
theorem c_X6_part (l : Launch) (hst : l.stackTraces = false) (w : Wl) (σ : St) (hk0 : w.2 0 0) (A : Ab) (hS : HS σ A) (p0 : Int) (hp0 : rI p0) (p1 : Int) (hp1 : rI p1) (p2 : Int) (hp2 : rI p2) : Cx l yX6_part cX6_part 6 (Option.some Jvm.ClassFile.FieldType.int) 7 103 3 18 wI [.ref (w.1 0 0), .int (iI (p0)), .int (iI (p1)), .int (iI (p2))] w σ (fun a σ' => ∃ A', f_part A p0 p1 p2 = (0, a, A') ∧ HS σ' A' ∧ FM σ σ') (Xc (f_part A p0 p1 p2) A) := by
  refine Cx.of (own := RX6) (lv := [(0, .ref (w.1 0 0)), (1, .int (iI (p0))), (2, .int (iI (p1))), (3, .int (iI (p2)))]) (by decide +kernel) rfl (Nat.le_of_ble_eq_true rfl) rfl (fun X hX hxl hR hcl hret hx => ?_)
  subst hxl
  have hH : ∀ c q, (c, q) ∈ mn σ 0 0 → w.2 c q := fun c q h => hcl 0 0 hk0 (c, q) h
  have hp0a := hp0.1
  have hp0b := hp0.2
  have hp1a := hp1.1
  have hp1b := hp1.2
  have hp2a := hp2.1
  have hp2b := hp2.2
  have hA := hS.2.1
  have hD := hS.2.2.1
  refine v_aload_n hX 0 rfl (atL dAX6_part_0 0 rfl) ?_
  refine v_iload_n hX 1 rfl (atL dAX6_part_0 1 rfl) ?_
  refine v_callVX hX (As := [.int (iI (p0))]) (rest := []) (c_X6_keyAt (xl X) hst w σ hk0 A hS p0 hp0) lk_X6_204 hk0 (fun _ => rfl) rfl rfl rfl (by rw [hR]; exact ⟨Nat.le_of_ble_eq_true rfl, Nat.le_of_ble_eq_true rfl⟩) (by rw [hR]; exact ⟨Nat.le_of_ble_eq_true rfl, Nat.le_of_ble_eq_true rfl⟩) rfl (Nat.le_of_ble_eq_true rfl) (atL dAX6_part_0 2 rfl) (fun E hE => hx E (Or.inl ⟨hE.1, by unfold f_part; exact if_pos (fun q => hE.2 (by omega))⟩) _ (Nat.le_of_ble_eq_true rfl) (Nat.le_of_ble_eq_true rfl)) (fun r1 z1 g1 => ?_)
  obtain ⟨kx, hkx, hkx2, ga1, gb1⟩ := g1
  rw [gb1]
  subst ga1
  obtain ⟨P, hPe⟩ : ∃ q, A.2.2.1 kx = q := ⟨_, rfl⟩
  obtain ⟨K, hKe⟩ : ∃ q, A.2.2.2 kx = q := ⟨_, rfl⟩
  have hK : KY σ kx P K := by rw [← hPe, ← hKe]; exact hS.2.2.2.2.2.2 kx hkx2
  have hk16 := hS.2.2.2.2.1
  have hkv : w.2 5 kx := hcl 12 0 (hH 12 0 (by simp [mn, tp])) (5, kx) (List.mem_map.mpr ⟨kx, List.mem_filter.mpr ⟨List.mem_range.mpr (by omega), decide_eq_true ((hS.2.2.2.2.2.1 kx (by omega)).trans (if_pos hkx2))⟩, rfl⟩)
  have htk : p0.toNat = kx := by omega
  have hk6 : w.2 6 kx := hcl 5 kx hkv (6, kx) (by simp [mn, tp])
  have hK6 := hK.2.1
  have hKP := hK.1
  have hkp : ∀ j, j < P → w.2 3 (32 + 8 * kx + j) := fun j hj => hcl 6 kx hk6 (3, 32 + 8 * kx + j) (by simp [mn]; omega)
  have hKl := hK.len
  have hK5 := hK.2.2.1
  have hKl2 : nby (K 0) ≤ 128 ∧ 1 ≤ nby (K 0) := hKl
  have hK0 := hK.2.2.2.2.1
  have hblK := blen_pos hK0
  have hblK2 := blen_le hK.2.2.2.2.2
  have hrBK : rB (blen (K 0) - 1) ≤ nby (K 0) := by unfold rB nby; omega
  show V X _ w _ _ σ [.ref (w.1 5 kx)]
  refine v_astore hX (lv' := [(4, .ref (w.1 5 kx)), (0, .ref (w.1 0 0)), (1, .int (iI (p0))), (2, .int (iI (p1))), (3, .int (iI (p2)))]) (Nat.le_of_ble_eq_true rfl) rfl (atL dAX6_part_0 3 rfl) ?_
  refine v_aload_n hX 1 rfl (atL dAX6_part_0 4 rfl) ?_
  refine v_iload_n hX 4 rfl (atL dAX6_part_0 5 rfl) ?_
  refine v_callVX hX (As := [.int (iI (p2))]) (rest := []) (c_X6_slotAt (xl X) hst w σ hk0 p2 hp2) lk_X6_92 hk0 (fun _ => rfl) rfl rfl rfl (by rw [hR]; exact ⟨Nat.le_of_ble_eq_true rfl, Nat.le_of_ble_eq_true rfl⟩) (by rw [hR]; exact ⟨Nat.le_of_ble_eq_true rfl, Nat.le_of_ble_eq_true rfl⟩) rfl (Nat.le_of_ble_eq_true rfl) (atL dAX6_part_0 6 rfl) (fun E hE => hx E (Or.inl ⟨hE.1, by unfold f_part; exact if_pos (fun q => hE.2 (by omega))⟩) _ (Nat.le_of_ble_eq_true rfl) (Nat.le_of_ble_eq_true rfl)) (fun r2 z2 g2 => ?_)
  obtain ⟨sp2, hsp2, hsp22, ga2, gb2⟩ := g2
  rw [gb2]
  subst ga2
  have hrsp2 := hS.1 sp2 (by omega)
  obtain ⟨lsp2, hlsp2⟩ : ∃ q, (A.1 sp2).length = q := ⟨_, rfl⟩
  have hqsp2 : lsp2 ≤ 256 := by rw [← hlsp2]; exact hS.sl hsp22
  have hvsp2 : w.2 1 sp2 := hcl 11 0 (hH 11 0 (by simp [mn, tp])) (1, sp2) (by simp [mn]; omega)
  have htsp2 : p2.toNat = sp2 := by omega
  show V X _ w _ _ σ [.ref (w.1 1 sp2)]
  refine v_astore hX (lv' := [(5, .ref (w.1 1 sp2)), (4, .ref (w.1 5 kx)), (0, .ref (w.1 0 0)), (1, .int (iI (p0))), (2, .int (iI (p1))), (3, .int (iI (p2)))]) (Nat.le_of_ble_eq_true rfl) rfl (atL dAX6_part_0 7 rfl) ?_
  refine v_iload_n hX 4 rfl (atL dAX6_part_0 8 rfl) ?_
  refine v_if_lt hX ⟨by omega, by omega⟩ (tgt := 24) (atL dAX6_part_0 9 rfl) (by decide) (fun h15 => ?_) (fun h15 => ?_)
  · exact v_throwS hX hst wd_317 xi_A (List.mem_of_getElem? (i := 8) rfl) xg_A xl_A xn_A (by decide +kernel) (atL dAX6_part_0 13 rfl) (atL dAX6_part_0 14 rfl) (atL dAX6_part_0 15 rfl) (atL dAX6_part_0 16 rfl) (atL dAX6_part_0 17 rfl) (by rw [hR]; exact ⟨Nat.le_of_ble_eq_true rfl, Nat.le_of_ble_eq_true rfl⟩) (by rw [hR]; exact ⟨Nat.le_of_ble_eq_true rfl, Nat.le_of_ble_eq_true rfl⟩) (hx _ (Or.inr ⟨rfl, by unfold f_part; rw [if_neg (by omega), if_pos (by omega)]⟩) _ (Nat.le_of_ble_eq_true rfl) (Nat.le_of_ble_eq_true rfl))
  · refine v_iload_n hX 4 rfl (atL dAX6_part_0 10 rfl) ?_
    refine v_bipush hX (by decide +kernel) (atL dAX6_part_0 11 rfl) ?_
    refine v_icmp_lt hX ⟨by omega, by omega⟩ ⟨by omega, by omega⟩ (tgt := 34) (atL dAX6_part_0 12 rfl) (by decide) (fun h21 => ?_) (fun h21 => ?_)
    · obtain ⟨wj, rfl⟩ : ∃ q : Nat, p1 = (q : Int) := ⟨p1.toNat, by omega⟩
      refine v_aload hX 1 rfl (atL dAX6_part_0 18 rfl) ?_
      refine v_iload_n hX 4 rfl (atL dAX6_part_0 19 rfl) ?_
      refine v_callV hX (As := [.int (iI ((wj : Int)))]) (rest := []) (c_X2_has (xl X) w σ kx hkv P K hK ((wj : Int)) ⟨by omega, by omega⟩) lk_X6_210 hkv (fun _ => rfl) rfl rfl rfl (by rw [hR]; exact ⟨Nat.le_of_ble_eq_true rfl, Nat.le_of_ble_eq_true rfl⟩) (by rw [hR]; exact ⟨Nat.le_of_ble_eq_true rfl, Nat.le_of_ble_eq_true rfl⟩) rfl (Nat.le_of_ble_eq_true rfl) (atL dAX6_part_0 20 rfl) (fun r3 z3 g3 => ?_)
      obtain ⟨gc3, gb3⟩ := g3
      rw [gb3]
      have gd3 : r3 = 0 ∨ r3 = 1 := by rcases gc3 with q | q <;> omega
      show V X _ w _ _ σ [.int (iI (r3))]
      refine v_if_eq hX ⟨by omega, by omega⟩ (tgt := 58) (atL dAX6_part_0 21 rfl) (by decide) (fun h40 => ?_) (fun h40 => ?_)
      · refine v_bipush hX (by decide +kernel) (atL dAX6_part_0 29 rfl) ?_
        exact v_iret hX (atL dAX6_part_0 30 rfl) (hret _ _ ⟨A, by unfold f_part; simp only [htk, htsp2, hPe, hKe, Int.toNat_natCast]; rw [if_neg (by omega), if_neg (by omega), if_pos (by have := gc3.f h40; omega)], hS, FM.rf⟩ _ (Nat.le_of_ble_eq_true rfl) (Nat.le_of_ble_eq_true rfl))
      · have hwP := gc3.t h40
        refine v_aload_n hX 2 rfl (atL dAX6_part_0 22 rfl) ?_
        refine v_aload hX 1 rfl (atL dAX6_part_0 23 rfl) ?_
        refine v_iload_n hX 4 rfl (atL dAX6_part_0 24 rfl) ?_
        refine v_callV hX (As := [.int (iI ((wj : Int)))]) (rest := [.ref (w.1 0 0)]) (c_X2_at (xl X) w σ kx hkv P K hK wj (by omega)) lk_X6_211 hkv (fun _ => rfl) rfl rfl rfl (by rw [hR]; exact ⟨Nat.le_of_ble_eq_true rfl, Nat.le_of_ble_eq_true rfl⟩) (by rw [hR]; exact ⟨Nat.le_of_ble_eq_true rfl, Nat.le_of_ble_eq_true rfl⟩) rfl (Nat.le_of_ble_eq_true rfl) (atL dAX6_part_0 25 rfl) (fun r4 z4 g4 => ?_)
        obtain ⟨ga4, gb4⟩ := g4
        rw [gb4]
        subst ga4
        have hwk4 : WN σ (32 + 8 * kx + wj) (K wj) := hK.2.2.2.1 wj (by omega)
        show V X _ w _ _ σ [.ref (w.1 3 (32 + 8 * kx + wj)), .ref (w.1 0 0)]
        refine v_aload hX 0 rfl (atL dAX6_part_0 26 rfl) ?_
        refine v_callV hX (As := [.ref (w.1 3 (32 + 8 * kx + wj)), .ref (w.1 1 sp2)]) (rest := []) (c_X6_putFewest (xl X) w σ hk0 hA hD (32 + 8 * kx + wj) (K wj) (hkp wj (by omega)) hwk4 sp2 hvsp2 (by omega)) lk_X6_141 hk0 (fun _ => rfl) rfl rfl rfl (by rw [hR]; exact ⟨Nat.le_of_ble_eq_true rfl, Nat.le_of_ble_eq_true rfl⟩) (by rw [hR]; exact ⟨Nat.le_of_ble_eq_true rfl, Nat.le_of_ble_eq_true rfl⟩) rfl (Nat.le_of_ble_eq_true rfl) (atL dAX6_part_0 27 rfl) (fun r5 s5 e5 => ?_)
        obtain ⟨gc5, gA5, gD5, gF5⟩ := e5
        have hF5 := (FH.rf : FH sp2 σ σ).tr2 gF5
        show V X _ w _ _ s5 [.int (iI (r5))]
        refine v_goto hX (tgt := 60) (atL dAX6_part_0 28 rfl) (by decide) ?_
        exact v_iret hX (atL dAX6_part_0 30 rfl) (hret _ _ (putR_post (by unfold f_part; simp only [htk, htsp2, hPe, hKe, Int.toNat_natCast]; rw [if_neg (by omega), if_neg (by omega), if_neg (by have := gc3.t h40; omega)]) hS hF5 gA5 gD5 gc5 hrsp2) _ (Nat.le_of_ble_eq_true rfl) (Nat.le_of_ble_eq_true rfl))
    · exact v_throwS hX hst wd_317 xi_A (List.mem_of_getElem? (i := 8) rfl) xg_A xl_A xn_A (by decide +kernel) (atL dAX6_part_0 13 rfl) (atL dAX6_part_0 14 rfl) (atL dAX6_part_0 15 rfl) (atL dAX6_part_0 16 rfl) (atL dAX6_part_0 17 rfl) (by rw [hR]; exact ⟨Nat.le_of_ble_eq_true rfl, Nat.le_of_ble_eq_true rfl⟩) (by rw [hR]; exact ⟨Nat.le_of_ble_eq_true rfl, Nat.le_of_ble_eq_true rfl⟩) (hx _ (Or.inr ⟨rfl, by unfold f_part; rw [if_neg (by omega), if_pos (by omega)]⟩) _ (Nat.le_of_ble_eq_true rfl) (Nat.le_of_ble_eq_true rfl))
