set_option maxHeartbeats 1000000 in
set_option maxRecDepth 100000 in
theorem c_X6_turn (l : Launch) (hst : l.stackTraces = false) (w : Wl) (σ : St) (hk0 : w.2 0 0) (A : Ab) (hS : HS σ A) (p0 : Int) (hp0 : rI p0) (p1 : Int) (hp1 : rI p1) (p2 : Int) (hp2 : rI p2) (p3 : Int) (hp3 : rI p3) : Cx l yX6_turn cX6_turn 8 (Option.some Jvm.ClassFile.FieldType.int) 7 115 4 24 wI [.ref (w.1 0 0), .int (iI (p0)), .int (iI (p1)), .int (iI (p2)), .int (iI (p3))] w σ (fun a σ' => ∃ A', f_turn A p0 p1 p2 p3 = (0, a, A') ∧ HS σ' A' ∧ FM σ σ') (Xc (f_turn A p0 p1 p2 p3) A) := by
  refine Cx.of (own := RX6) (lv := [(0, .ref (w.1 0 0)), (1, .int (iI (p0))), (2, .int (iI (p1))), (3, .int (iI (p2))), (4, .int (iI (p3)))]) (by decide +kernel) rfl (Nat.le_of_ble_eq_true rfl) rfl (fun X hX hxl hR hcl hret hx => ?_)
  subst hxl
  have hH : ∀ c q, (c, q) ∈ mn σ 0 0 → w.2 c q := fun c q h => hcl 0 0 hk0 (c, q) h
  have hp0a := hp0.1
  have hp0b := hp0.2
  have hp1a := hp1.1
  have hp1b := hp1.2
  have hp2a := hp2.1
  have hp2b := hp2.2
  have hp3a := hp3.1
  have hp3b := hp3.2
  have hA := hS.2.1
  have hD := hS.2.2.1
  refine v_aload_n hX 0 rfl (atL dAX6_turn_0 0 rfl) ?_
  refine v_iload_n hX 1 rfl (atL dAX6_turn_0 1 rfl) ?_
  refine v_callVX hX (As := [.int (iI (p0))]) (rest := []) (c_X6_keyAt (xl X) hst w σ hk0 A hS p0 hp0) lk_X6_204 hk0 (fun _ => rfl) rfl rfl rfl (by rw [hR]; exact ⟨Nat.le_of_ble_eq_true rfl, Nat.le_of_ble_eq_true rfl⟩) (by rw [hR]; exact ⟨Nat.le_of_ble_eq_true rfl, Nat.le_of_ble_eq_true rfl⟩) rfl (Nat.le_of_ble_eq_true rfl) (atL dAX6_turn_0 2 rfl) (fun E hE => hx E (Or.inl ⟨hE.1, by unfold f_turn; exact if_pos (fun q => hE.2 (by omega))⟩) _ (Nat.le_of_ble_eq_true rfl) (Nat.le_of_ble_eq_true rfl)) (fun r1 z1 g1 => ?_)
  obtain ⟨kx, hkx, hkx2, ga1, gb1⟩ := g1
  rw [gb1]
  subst ga1
  obtain ⟨P, hPe⟩ : ∃ q, A.2.2.1 kx = q := ⟨_, rfl⟩
  obtain ⟨K, hKe⟩ : ∃ q, A.2.2.2 kx = q := ⟨_, rfl⟩
  have hK : KY σ kx P K := by rw [← hPe, ← hKe]; exact hS.2.2.2.2.2.2 kx hkx2
  have hk16 := hS.2.2.2.2.1
  have hkv : w.2 5 kx := hcl 12 0 (hH 12 0 (by simp [mn, tp])) (5, kx) (List.mem_map.mpr ⟨kx, List.mem_filter.mpr ⟨List.mem_range.mpr (by omega), decide_eq_true ((hS.2.2.2.2.2.1 kx (by omega)).trans (if_pos hkx2))⟩, rfl⟩)
  have htk : p0.toNat = kx := by omega
  have hk6 : w.2 6 kx := hcl 5 kx hkv (6, kx) (by simp [mn, tp])
  have hK6 := hK.2.1
  have hKP := hK.1
  have hkp : ∀ j, j < P → w.2 3 (32 + 8 * kx + j) := fun j hj => hcl 6 kx hk6 (3, 32 + 8 * kx + j) (by simp [mn]; omega)
  have hKl := hK.len
  have hK5 := hK.2.2.1
  have hKl2 : nby (K 0) ≤ 128 ∧ 1 ≤ nby (K 0) := hKl
  have hK0 := hK.2.2.2.2.1
  have hblK := blen_pos hK0
  have hblK2 := blen_le hK.2.2.2.2.2
  have hrBK : rB (blen (K 0) - 1) ≤ nby (K 0) := by unfold rB nby; omega
  show V X _ w _ _ σ [.ref (w.1 5 kx)]
  refine v_astore hX (lv' := [(5, .ref (w.1 5 kx)), (0, .ref (w.1 0 0)), (1, .int (iI (p0))), (2, .int (iI (p1))), (3, .int (iI (p2))), (4, .int (iI (p3)))]) (Nat.le_of_ble_eq_true rfl) rfl (atL dAX6_turn_0 3 rfl) ?_
  refine v_aload_n hX 1 rfl (atL dAX6_turn_0 4 rfl) ?_
  refine v_iload_n hX 4 rfl (atL dAX6_turn_0 5 rfl) ?_
  refine v_callVX hX (As := [.int (iI (p2))]) (rest := []) (c_X6_slotAt (xl X) hst w σ hk0 p2 hp2) lk_X6_92 hk0 (fun _ => rfl) rfl rfl rfl (by rw [hR]; exact ⟨Nat.le_of_ble_eq_true rfl, Nat.le_of_ble_eq_true rfl⟩) (by rw [hR]; exact ⟨Nat.le_of_ble_eq_true rfl, Nat.le_of_ble_eq_true rfl⟩) rfl (Nat.le_of_ble_eq_true rfl) (atL dAX6_turn_0 6 rfl) (fun E hE => hx E (Or.inl ⟨hE.1, by unfold f_turn; exact if_pos (fun q => hE.2 (by omega))⟩) _ (Nat.le_of_ble_eq_true rfl) (Nat.le_of_ble_eq_true rfl)) (fun r2 z2 g2 => ?_)
  obtain ⟨sp2, hsp2, hsp22, ga2, gb2⟩ := g2
  rw [gb2]
  subst ga2
  have hrsp2 := hS.1 sp2 (by omega)
  obtain ⟨lsp2, hlsp2⟩ : ∃ q, (A.1 sp2).length = q := ⟨_, rfl⟩
  have hqsp2 : lsp2 ≤ 256 := by rw [← hlsp2]; exact hS.sl hsp22
  have hvsp2 : w.2 1 sp2 := hcl 11 0 (hH 11 0 (by simp [mn, tp])) (1, sp2) (by simp [mn]; omega)
  have htsp2 : p2.toNat = sp2 := by omega
  show V X _ w _ _ σ [.ref (w.1 1 sp2)]
  refine v_astore hX (lv' := [(6, .ref (w.1 1 sp2)), (5, .ref (w.1 5 kx)), (0, .ref (w.1 0 0)), (1, .int (iI (p0))), (2, .int (iI (p1))), (3, .int (iI (p2))), (4, .int (iI (p3)))]) (Nat.le_of_ble_eq_true rfl) rfl (atL dAX6_turn_0 7 rfl) ?_
  refine v_aload_n hX 2 rfl (atL dAX6_turn_0 8 rfl) ?_
  refine v_iload hX 6 rfl (atL dAX6_turn_0 9 rfl) ?_
  refine v_callVX hX (As := [.int (iI (p3))]) (rest := []) (c_X6_slotAt (xl X) hst w σ hk0 p3 hp3) lk_X6_92 hk0 (fun _ => rfl) rfl rfl rfl (by rw [hR]; exact ⟨Nat.le_of_ble_eq_true rfl, Nat.le_of_ble_eq_true rfl⟩) (by rw [hR]; exact ⟨Nat.le_of_ble_eq_true rfl, Nat.le_of_ble_eq_true rfl⟩) rfl (Nat.le_of_ble_eq_true rfl) (atL dAX6_turn_0 10 rfl) (fun E hE => hx E (Or.inl ⟨hE.1, by unfold f_turn; exact if_pos (fun q => hE.2 (by omega))⟩) _ (Nat.le_of_ble_eq_true rfl) (Nat.le_of_ble_eq_true rfl)) (fun r3 z3 g3 => ?_)
  obtain ⟨sp3, hsp3, hsp32, ga3, gb3⟩ := g3
  rw [gb3]
  subst ga3
  have hrsp3 := hS.1 sp3 (by omega)
  obtain ⟨lsp3, hlsp3⟩ : ∃ q, (A.1 sp3).length = q := ⟨_, rfl⟩
  have hqsp3 : lsp3 ≤ 256 := by rw [← hlsp3]; exact hS.sl hsp32
  have hvsp3 : w.2 1 sp3 := hcl 11 0 (hH 11 0 (by simp [mn, tp])) (1, sp3) (by simp [mn]; omega)
  have htsp3 : p3.toNat = sp3 := by omega
  show V X _ w _ _ σ [.ref (w.1 1 sp3)]
  refine v_astore hX (lv' := [(7, .ref (w.1 1 sp3)), (6, .ref (w.1 1 sp2)), (5, .ref (w.1 5 kx)), (0, .ref (w.1 0 0)), (1, .int (iI (p0))), (2, .int (iI (p1))), (3, .int (iI (p2))), (4, .int (iI (p3)))]) (Nat.le_of_ble_eq_true rfl) rfl (atL dAX6_turn_0 11 rfl) ?_
  refine v_iload_n hX 5 rfl (atL dAX6_turn_0 12 rfl) ?_
  refine v_if_eq hX ⟨by omega, by omega⟩ (tgt := 41) (atL dAX6_turn_0 13 rfl) (by decide) (fun h23 => ?_) (fun h23 => ?_)
  · obtain ⟨hw, rfl⟩ : ∃ q : Nat, p1 = (q : Int) := ⟨p1.toNat, by omega⟩
    refine v_iload_n hX 5 rfl (atL dAX6_turn_0 22 rfl) ?_
    refine v_iconst hX (atL dAX6_turn_0 23 rfl) ?_
    refine v_icmp_ne hX ⟨by omega, by omega⟩ ⟨by omega, by omega⟩ (tgt := 57) (atL dAX6_turn_0 24 rfl) (by decide) (fun h43 => ?_) (fun h43 => ?_)
    · have hho2 : hw = 0 ∨ (hw = 1 ∧ P = 8) := by omega
      refine v_aload_n hX 3 rfl (atL dAX6_turn_0 30 rfl) ?_
      refine v_aload hX 2 rfl (atL dAX6_turn_0 31 rfl) ?_
      refine v_iload_n hX 5 rfl (atL dAX6_turn_0 32 rfl) ?_
      refine v_aload hX 1 rfl (atL dAX6_turn_0 33 rfl) ?_
      refine v_callV hX (As := [.ref (w.1 5 kx), .int (iI ((hw : Int))), .ref (w.1 1 sp2)]) (rest := []) (c_X6_turnRow (xl X) w σ hk0 hA hD kx hkv P K hK hw (by omega) sp2 hvsp2 (by omega) (A.1 sp2) hrsp2 (by rw [hlsp2]; omega)) lk_X6_219 hk0 (fun _ => rfl) rfl rfl rfl (by rw [hR]; exact ⟨Nat.le_of_ble_eq_true rfl, Nat.le_of_ble_eq_true rfl⟩) (by rw [hR]; exact ⟨Nat.le_of_ble_eq_true rfl, Nat.le_of_ble_eq_true rfl⟩) rfl (Nat.le_of_ble_eq_true rfl) (atL dAX6_turn_0 34 rfl) (fun r4 s4 e4 => ?_)
      obtain ⟨gc4, gA4, gD4, gF4⟩ := e4
      have gd4 : r4 = 0 ∨ r4 = 1 := by rcases gc4 with q | q <;> omega
      have hr4_sp2 := hrsp2.frH gF4 (by omega) (by omega)
      have hr4_sp3 := hrsp3.frH gF4 (by omega) (by omega)
      have hc4_400 := gF4 4 0 (Or.inr (Or.inr (Or.inl ⟨by omega, by omega⟩))) (fun q => by omega)
      have hc4_5kx0 := gF4 5 kx (Or.inr (Or.inr (Or.inl ⟨by omega, by omega⟩))) (fun q => by omega)
      have hF4 := (FH.rf : FH sp3 σ σ).tr2 (gF4.mono (t := sp3) (by omega))
      show V X _ w _ _ s4 [.int (iI (r4))]
      refine v_if_ne hX ⟨by omega, by omega⟩ (tgt := 71) (atL dAX6_turn_0 35 rfl) (by decide) (fun h66 => ?_) (fun h66 => ?_)
      · have hr26 : RW s4 26 (tn K hw (A.1 sp2)) := (gc4.resolve_right (fun q => by omega)).2.2
        have hlt26 := (gc4.resolve_right (fun q => by omega)).2.1
        refine v_aload hX 0 rfl (atL dAX6_turn_0 38 rfl) ?_
        refine v_aload_n hX 3 rfl (atL dAX6_turn_0 39 rfl) ?_
        refine gf_X6_58 hX hk0 (atL dAX6_turn_0 40 rfl) ?_
        refine v_callV hX (As := [.ref (w.1 1 26)]) (rest := []) (c_X4_take (xl X) w s4 sp3 hvsp3 (gA4 sp3) 26 (hH 1 26 (by simp [mn, tp])) (gA4 26) (by omega) (by rw [hr26.2, tn_len]; rw [rcap_s (by omega)]; omega)) lk_X6_117 hvsp3 (fun _ => rfl) rfl rfl rfl (by rw [hR]; exact ⟨Nat.le_of_ble_eq_true rfl, Nat.le_of_ble_eq_true rfl⟩) (by rw [hR]; exact ⟨Nat.le_of_ble_eq_true rfl, Nat.le_of_ble_eq_true rfl⟩) rfl (Nat.le_of_ble_eq_true rfl) (atL dAX6_turn_0 41 rfl) (fun _ s5 e5 => ?_)
        rw [hr26.2] at e5
        have hl5 : (tn K hw (A.1 sp2)).length = nby (K 0) := by rw [tn_len]
        obtain ⟨hr5, hf5⟩ := RW_of (M := tn K hw (A.1 sp2)) (gA4 sp3) e5 (by rw [hl5]; rw [rcap_s (by omega)]; omega) (hr26.by)
        have hA5 := gA4.one hr5 hf5 (by simp)
        have hD5 := gD4.fr hf5 (by simp)
        have hr5_26 := hr26.fr hf5 (by simp <;> omega) (by simp <;> omega)
        have hc5_400 := hf5 4 0 (by simp <;> omega)
        have hc5_5kx0 := hf5 5 kx (by simp <;> omega)
        have hF5 := hF4.tr hf5 (by simp [Hk] <;> omega)
        show V X _ w _ _ s5 []
        refine v_aload hX 2 rfl (atL dAX6_turn_0 42 rfl) ?_
        refine gf_X6_223 hX (v := ((nby (K 0) : Nat) : Int)) (((congrFun hc5_5kx0 0).trans ((congrFun hc4_5kx0 0).trans hK5))) hkv (atL dAX6_turn_0 43 rfl) ?_
        exact v_iret hX (atL dAX6_turn_0 44 rfl) (hret _ _ ⟨A.put sp3 (tn K hw (A.1 sp2)), by unfold f_turn; simp only [htk, htsp2, htsp3, hPe, hKe, Int.toNat_natCast]; rw [if_neg (by omega), if_neg (by omega), if_neg (fun q => by omega), if_neg (by omega)], hS.put hF5 hA5 hD5 hr5, hF5.fm⟩ _ (Nat.le_of_ble_eq_true rfl) (Nat.le_of_ble_eq_true rfl))
      · refine v_iconst hX (atL dAX6_turn_0 36 rfl) ?_
        exact v_iret hX (atL dAX6_turn_0 37 rfl) (hret _ _ ⟨A, by unfold f_turn; simp only [htk, htsp2, htsp3, hPe, hKe, Int.toNat_natCast]; rw [if_neg (by omega), if_neg (by omega), if_neg (fun q => by omega), if_pos (gc4.resolve_left (fun q => by omega)).2], hS.keepT hF4 gA4 gD4 hr4_sp3, hF4.fm⟩ _ (Nat.le_of_ble_eq_true rfl) (Nat.le_of_ble_eq_true rfl))
    · refine v_aload hX 2 rfl (atL dAX6_turn_0 25 rfl) ?_
      refine v_callV hX (As := []) (rest := []) (c_X2_isOpen (xl X) w σ kx hkv P K hK) lk_X6_216 hkv (fun _ => rfl) rfl rfl rfl (by rw [hR]; exact ⟨Nat.le_of_ble_eq_true rfl, Nat.le_of_ble_eq_true rfl⟩) (by rw [hR]; exact ⟨Nat.le_of_ble_eq_true rfl, Nat.le_of_ble_eq_true rfl⟩) rfl (Nat.le_of_ble_eq_true rfl) (atL dAX6_turn_0 26 rfl) (fun r6 z6 g6 => ?_)
      obtain ⟨gc6, gb6⟩ := g6
      rw [gb6]
      have gd6 : r6 = 0 ∨ r6 = 1 := by rcases gc6 with q | q <;> omega
      show V X _ w _ _ σ [.int (iI (r6))]
      refine v_if_eq hX ⟨by omega, by omega⟩ (tgt := 57) (atL dAX6_turn_0 27 rfl) (by decide) (fun h51 => ?_) (fun h51 => ?_)
      · have hho2 : hw = 0 ∨ (hw = 1 ∧ P = 8) := by have := gc6.f h51; omega
        refine v_aload_n hX 3 rfl (atL dAX6_turn_0 30 rfl) ?_
        refine v_aload hX 2 rfl (atL dAX6_turn_0 31 rfl) ?_
        refine v_iload_n hX 5 rfl (atL dAX6_turn_0 32 rfl) ?_
        refine v_aload hX 1 rfl (atL dAX6_turn_0 33 rfl) ?_
        refine v_callV hX (As := [.ref (w.1 5 kx), .int (iI ((hw : Int))), .ref (w.1 1 sp2)]) (rest := []) (c_X6_turnRow (xl X) w σ hk0 hA hD kx hkv P K hK hw (by omega) sp2 hvsp2 (by omega) (A.1 sp2) hrsp2 (by rw [hlsp2]; omega)) lk_X6_219 hk0 (fun _ => rfl) rfl rfl rfl (by rw [hR]; exact ⟨Nat.le_of_ble_eq_true rfl, Nat.le_of_ble_eq_true rfl⟩) (by rw [hR]; exact ⟨Nat.le_of_ble_eq_true rfl, Nat.le_of_ble_eq_true rfl⟩) rfl (Nat.le_of_ble_eq_true rfl) (atL dAX6_turn_0 34 rfl) (fun r7 s7 e7 => ?_)
        obtain ⟨gc7, gA7, gD7, gF7⟩ := e7
        have gd7 : r7 = 0 ∨ r7 = 1 := by rcases gc7 with q | q <;> omega
        have hr7_sp2 := hrsp2.frH gF7 (by omega) (by omega)
        have hr7_sp3 := hrsp3.frH gF7 (by omega) (by omega)
        have hc7_400 := gF7 4 0 (Or.inr (Or.inr (Or.inl ⟨by omega, by omega⟩))) (fun q => by omega)
        have hc7_5kx0 := gF7 5 kx (Or.inr (Or.inr (Or.inl ⟨by omega, by omega⟩))) (fun q => by omega)
        have hF7 := (FH.rf : FH sp3 σ σ).tr2 (gF7.mono (t := sp3) (by omega))
        show V X _ w _ _ s7 [.int (iI (r7))]
        refine v_if_ne hX ⟨by omega, by omega⟩ (tgt := 71) (atL dAX6_turn_0 35 rfl) (by decide) (fun h66 => ?_) (fun h66 => ?_)
        · have hr26 : RW s7 26 (tn K hw (A.1 sp2)) := (gc7.resolve_right (fun q => by omega)).2.2
          have hlt26 := (gc7.resolve_right (fun q => by omega)).2.1
          refine v_aload hX 0 rfl (atL dAX6_turn_0 38 rfl) ?_
          refine v_aload_n hX 3 rfl (atL dAX6_turn_0 39 rfl) ?_
          refine gf_X6_58 hX hk0 (atL dAX6_turn_0 40 rfl) ?_
          refine v_callV hX (As := [.ref (w.1 1 26)]) (rest := []) (c_X4_take (xl X) w s7 sp3 hvsp3 (gA7 sp3) 26 (hH 1 26 (by simp [mn, tp])) (gA7 26) (by omega) (by rw [hr26.2, tn_len]; rw [rcap_s (by omega)]; omega)) lk_X6_117 hvsp3 (fun _ => rfl) rfl rfl rfl (by rw [hR]; exact ⟨Nat.le_of_ble_eq_true rfl, Nat.le_of_ble_eq_true rfl⟩) (by rw [hR]; exact ⟨Nat.le_of_ble_eq_true rfl, Nat.le_of_ble_eq_true rfl⟩) rfl (Nat.le_of_ble_eq_true rfl) (atL dAX6_turn_0 41 rfl) (fun _ s8 e8 => ?_)
          rw [hr26.2] at e8
          have hl8 : (tn K hw (A.1 sp2)).length = nby (K 0) := by rw [tn_len]
          obtain ⟨hr8, hf8⟩ := RW_of (M := tn K hw (A.1 sp2)) (gA7 sp3) e8 (by rw [hl8]; rw [rcap_s (by omega)]; omega) (hr26.by)
          have hA8 := gA7.one hr8 hf8 (by simp)
          have hD8 := gD7.fr hf8 (by simp)
          have hr8_26 := hr26.fr hf8 (by simp <;> omega) (by simp <;> omega)
          have hc8_400 := hf8 4 0 (by simp <;> omega)
          have hc8_5kx0 := hf8 5 kx (by simp <;> omega)
          have hF8 := hF7.tr hf8 (by simp [Hk] <;> omega)
          show V X _ w _ _ s8 []
          refine v_aload hX 2 rfl (atL dAX6_turn_0 42 rfl) ?_
          refine gf_X6_223 hX (v := ((nby (K 0) : Nat) : Int)) (((congrFun hc8_5kx0 0).trans ((congrFun hc7_5kx0 0).trans hK5))) hkv (atL dAX6_turn_0 43 rfl) ?_
          exact v_iret hX (atL dAX6_turn_0 44 rfl) (hret _ _ ⟨A.put sp3 (tn K hw (A.1 sp2)), by unfold f_turn; simp only [htk, htsp2, htsp3, hPe, hKe, Int.toNat_natCast]; rw [if_neg (by omega), if_neg (by omega), if_neg (fun q => gc6.f h51 q.2), if_neg (by omega)], hS.put hF8 hA8 hD8 hr8, hF8.fm⟩ _ (Nat.le_of_ble_eq_true rfl) (Nat.le_of_ble_eq_true rfl))
        · refine v_iconst hX (atL dAX6_turn_0 36 rfl) ?_
          exact v_iret hX (atL dAX6_turn_0 37 rfl) (hret _ _ ⟨A, by unfold f_turn; simp only [htk, htsp2, htsp3, hPe, hKe, Int.toNat_natCast]; rw [if_neg (by omega), if_neg (by omega), if_neg (fun q => gc6.f h51 q.2), if_pos (gc7.resolve_left (fun q => by omega)).2], hS.keepT hF7 gA7 gD7 hr7_sp3, hF7.fm⟩ _ (Nat.le_of_ble_eq_true rfl) (Nat.le_of_ble_eq_true rfl))
      · refine v_bipush hX (by decide +kernel) (atL dAX6_turn_0 28 rfl) ?_
        exact v_iret hX (atL dAX6_turn_0 29 rfl) (hret _ _ ⟨A, by unfold f_turn; simp only [htk, htsp2, htsp3, hPe, hKe, Int.toNat_natCast]; rw [if_neg (by omega), if_neg (by omega), if_pos ⟨by omega, gc6.t h51⟩], hS, FM.rf⟩ _ (Nat.le_of_ble_eq_true rfl) (Nat.le_of_ble_eq_true rfl))
  · refine v_iload_n hX 5 rfl (atL dAX6_turn_0 14 rfl) ?_
    refine v_iconst hX (atL dAX6_turn_0 15 rfl) ?_
    refine v_icmp_eq hX ⟨by omega, by omega⟩ ⟨by omega, by omega⟩ (tgt := 41) (atL dAX6_turn_0 16 rfl) (by decide) (fun h28 => ?_) (fun h28 => ?_)
    · obtain ⟨hw, rfl⟩ : ∃ q : Nat, p1 = (q : Int) := ⟨p1.toNat, by omega⟩
      refine v_iload_n hX 5 rfl (atL dAX6_turn_0 22 rfl) ?_
      refine v_iconst hX (atL dAX6_turn_0 23 rfl) ?_
      refine v_icmp_ne hX ⟨by omega, by omega⟩ ⟨by omega, by omega⟩ (tgt := 57) (atL dAX6_turn_0 24 rfl) (by decide) (fun h43 => ?_) (fun h43 => ?_)
      · have hho2 : hw = 0 ∨ (hw = 1 ∧ P = 8) := by omega
        refine v_aload_n hX 3 rfl (atL dAX6_turn_0 30 rfl) ?_
        refine v_aload hX 2 rfl (atL dAX6_turn_0 31 rfl) ?_
        refine v_iload_n hX 5 rfl (atL dAX6_turn_0 32 rfl) ?_
        refine v_aload hX 1 rfl (atL dAX6_turn_0 33 rfl) ?_
        refine v_callV hX (As := [.ref (w.1 5 kx), .int (iI ((hw : Int))), .ref (w.1 1 sp2)]) (rest := []) (c_X6_turnRow (xl X) w σ hk0 hA hD kx hkv P K hK hw (by omega) sp2 hvsp2 (by omega) (A.1 sp2) hrsp2 (by rw [hlsp2]; omega)) lk_X6_219 hk0 (fun _ => rfl) rfl rfl rfl (by rw [hR]; exact ⟨Nat.le_of_ble_eq_true rfl, Nat.le_of_ble_eq_true rfl⟩) (by rw [hR]; exact ⟨Nat.le_of_ble_eq_true rfl, Nat.le_of_ble_eq_true rfl⟩) rfl (Nat.le_of_ble_eq_true rfl) (atL dAX6_turn_0 34 rfl) (fun r9 s9 e9 => ?_)
        obtain ⟨gc9, gA9, gD9, gF9⟩ := e9
        have gd9 : r9 = 0 ∨ r9 = 1 := by rcases gc9 with q | q <;> omega
        have hr9_sp2 := hrsp2.frH gF9 (by omega) (by omega)
        have hr9_sp3 := hrsp3.frH gF9 (by omega) (by omega)
        have hc9_400 := gF9 4 0 (Or.inr (Or.inr (Or.inl ⟨by omega, by omega⟩))) (fun q => by omega)
        have hc9_5kx0 := gF9 5 kx (Or.inr (Or.inr (Or.inl ⟨by omega, by omega⟩))) (fun q => by omega)
        have hF9 := (FH.rf : FH sp3 σ σ).tr2 (gF9.mono (t := sp3) (by omega))
        show V X _ w _ _ s9 [.int (iI (r9))]
        refine v_if_ne hX ⟨by omega, by omega⟩ (tgt := 71) (atL dAX6_turn_0 35 rfl) (by decide) (fun h66 => ?_) (fun h66 => ?_)
        · have hr26 : RW s9 26 (tn K hw (A.1 sp2)) := (gc9.resolve_right (fun q => by omega)).2.2
          have hlt26 := (gc9.resolve_right (fun q => by omega)).2.1
          refine v_aload hX 0 rfl (atL dAX6_turn_0 38 rfl) ?_
          refine v_aload_n hX 3 rfl (atL dAX6_turn_0 39 rfl) ?_
          refine gf_X6_58 hX hk0 (atL dAX6_turn_0 40 rfl) ?_
          refine v_callV hX (As := [.ref (w.1 1 26)]) (rest := []) (c_X4_take (xl X) w s9 sp3 hvsp3 (gA9 sp3) 26 (hH 1 26 (by simp [mn, tp])) (gA9 26) (by omega) (by rw [hr26.2, tn_len]; rw [rcap_s (by omega)]; omega)) lk_X6_117 hvsp3 (fun _ => rfl) rfl rfl rfl (by rw [hR]; exact ⟨Nat.le_of_ble_eq_true rfl, Nat.le_of_ble_eq_true rfl⟩) (by rw [hR]; exact ⟨Nat.le_of_ble_eq_true rfl, Nat.le_of_ble_eq_true rfl⟩) rfl (Nat.le_of_ble_eq_true rfl) (atL dAX6_turn_0 41 rfl) (fun _ s10 e10 => ?_)
          rw [hr26.2] at e10
          have hl10 : (tn K hw (A.1 sp2)).length = nby (K 0) := by rw [tn_len]
          obtain ⟨hr10, hf10⟩ := RW_of (M := tn K hw (A.1 sp2)) (gA9 sp3) e10 (by rw [hl10]; rw [rcap_s (by omega)]; omega) (hr26.by)
          have hA10 := gA9.one hr10 hf10 (by simp)
          have hD10 := gD9.fr hf10 (by simp)
          have hr10_26 := hr26.fr hf10 (by simp <;> omega) (by simp <;> omega)
          have hc10_400 := hf10 4 0 (by simp <;> omega)
          have hc10_5kx0 := hf10 5 kx (by simp <;> omega)
          have hF10 := hF9.tr hf10 (by simp [Hk] <;> omega)
          show V X _ w _ _ s10 []
          refine v_aload hX 2 rfl (atL dAX6_turn_0 42 rfl) ?_
          refine gf_X6_223 hX (v := ((nby (K 0) : Nat) : Int)) (((congrFun hc10_5kx0 0).trans ((congrFun hc9_5kx0 0).trans hK5))) hkv (atL dAX6_turn_0 43 rfl) ?_
          exact v_iret hX (atL dAX6_turn_0 44 rfl) (hret _ _ ⟨A.put sp3 (tn K hw (A.1 sp2)), by unfold f_turn; simp only [htk, htsp2, htsp3, hPe, hKe, Int.toNat_natCast]; rw [if_neg (by omega), if_neg (by omega), if_neg (fun q => by omega), if_neg (by omega)], hS.put hF10 hA10 hD10 hr10, hF10.fm⟩ _ (Nat.le_of_ble_eq_true rfl) (Nat.le_of_ble_eq_true rfl))
        · refine v_iconst hX (atL dAX6_turn_0 36 rfl) ?_
          exact v_iret hX (atL dAX6_turn_0 37 rfl) (hret _ _ ⟨A, by unfold f_turn; simp only [htk, htsp2, htsp3, hPe, hKe, Int.toNat_natCast]; rw [if_neg (by omega), if_neg (by omega), if_neg (fun q => by omega), if_pos (gc9.resolve_left (fun q => by omega)).2], hS.keepT hF9 gA9 gD9 hr9_sp3, hF9.fm⟩ _ (Nat.le_of_ble_eq_true rfl) (Nat.le_of_ble_eq_true rfl))
      · refine v_aload hX 2 rfl (atL dAX6_turn_0 25 rfl) ?_
        refine v_callV hX (As := []) (rest := []) (c_X2_isOpen (xl X) w σ kx hkv P K hK) lk_X6_216 hkv (fun _ => rfl) rfl rfl rfl (by rw [hR]; exact ⟨Nat.le_of_ble_eq_true rfl, Nat.le_of_ble_eq_true rfl⟩) (by rw [hR]; exact ⟨Nat.le_of_ble_eq_true rfl, Nat.le_of_ble_eq_true rfl⟩) rfl (Nat.le_of_ble_eq_true rfl) (atL dAX6_turn_0 26 rfl) (fun r11 z11 g11 => ?_)
        obtain ⟨gc11, gb11⟩ := g11
        rw [gb11]
        have gd11 : r11 = 0 ∨ r11 = 1 := by rcases gc11 with q | q <;> omega
        show V X _ w _ _ σ [.int (iI (r11))]
        refine v_if_eq hX ⟨by omega, by omega⟩ (tgt := 57) (atL dAX6_turn_0 27 rfl) (by decide) (fun h51 => ?_) (fun h51 => ?_)
        · have hho2 : hw = 0 ∨ (hw = 1 ∧ P = 8) := by have := gc11.f h51; omega
          refine v_aload_n hX 3 rfl (atL dAX6_turn_0 30 rfl) ?_
          refine v_aload hX 2 rfl (atL dAX6_turn_0 31 rfl) ?_
          refine v_iload_n hX 5 rfl (atL dAX6_turn_0 32 rfl) ?_
          refine v_aload hX 1 rfl (atL dAX6_turn_0 33 rfl) ?_
          refine v_callV hX (As := [.ref (w.1 5 kx), .int (iI ((hw : Int))), .ref (w.1 1 sp2)]) (rest := []) (c_X6_turnRow (xl X) w σ hk0 hA hD kx hkv P K hK hw (by omega) sp2 hvsp2 (by omega) (A.1 sp2) hrsp2 (by rw [hlsp2]; omega)) lk_X6_219 hk0 (fun _ => rfl) rfl rfl rfl (by rw [hR]; exact ⟨Nat.le_of_ble_eq_true rfl, Nat.le_of_ble_eq_true rfl⟩) (by rw [hR]; exact ⟨Nat.le_of_ble_eq_true rfl, Nat.le_of_ble_eq_true rfl⟩) rfl (Nat.le_of_ble_eq_true rfl) (atL dAX6_turn_0 34 rfl) (fun r12 s12 e12 => ?_)
          obtain ⟨gc12, gA12, gD12, gF12⟩ := e12
          have gd12 : r12 = 0 ∨ r12 = 1 := by rcases gc12 with q | q <;> omega
          have hr12_sp2 := hrsp2.frH gF12 (by omega) (by omega)
          have hr12_sp3 := hrsp3.frH gF12 (by omega) (by omega)
          have hc12_400 := gF12 4 0 (Or.inr (Or.inr (Or.inl ⟨by omega, by omega⟩))) (fun q => by omega)
          have hc12_5kx0 := gF12 5 kx (Or.inr (Or.inr (Or.inl ⟨by omega, by omega⟩))) (fun q => by omega)
          have hF12 := (FH.rf : FH sp3 σ σ).tr2 (gF12.mono (t := sp3) (by omega))
          show V X _ w _ _ s12 [.int (iI (r12))]
          refine v_if_ne hX ⟨by omega, by omega⟩ (tgt := 71) (atL dAX6_turn_0 35 rfl) (by decide) (fun h66 => ?_) (fun h66 => ?_)
          · have hr26 : RW s12 26 (tn K hw (A.1 sp2)) := (gc12.resolve_right (fun q => by omega)).2.2
            have hlt26 := (gc12.resolve_right (fun q => by omega)).2.1
            refine v_aload hX 0 rfl (atL dAX6_turn_0 38 rfl) ?_
            refine v_aload_n hX 3 rfl (atL dAX6_turn_0 39 rfl) ?_
            refine gf_X6_58 hX hk0 (atL dAX6_turn_0 40 rfl) ?_
            refine v_callV hX (As := [.ref (w.1 1 26)]) (rest := []) (c_X4_take (xl X) w s12 sp3 hvsp3 (gA12 sp3) 26 (hH 1 26 (by simp [mn, tp])) (gA12 26) (by omega) (by rw [hr26.2, tn_len]; rw [rcap_s (by omega)]; omega)) lk_X6_117 hvsp3 (fun _ => rfl) rfl rfl rfl (by rw [hR]; exact ⟨Nat.le_of_ble_eq_true rfl, Nat.le_of_ble_eq_true rfl⟩) (by rw [hR]; exact ⟨Nat.le_of_ble_eq_true rfl, Nat.le_of_ble_eq_true rfl⟩) rfl (Nat.le_of_ble_eq_true rfl) (atL dAX6_turn_0 41 rfl) (fun _ s13 e13 => ?_)
            rw [hr26.2] at e13
            have hl13 : (tn K hw (A.1 sp2)).length = nby (K 0) := by rw [tn_len]
            obtain ⟨hr13, hf13⟩ := RW_of (M := tn K hw (A.1 sp2)) (gA12 sp3) e13 (by rw [hl13]; rw [rcap_s (by omega)]; omega) (hr26.by)
            have hA13 := gA12.one hr13 hf13 (by simp)
            have hD13 := gD12.fr hf13 (by simp)
            have hr13_26 := hr26.fr hf13 (by simp <;> omega) (by simp <;> omega)
            have hc13_400 := hf13 4 0 (by simp <;> omega)
            have hc13_5kx0 := hf13 5 kx (by simp <;> omega)
            have hF13 := hF12.tr hf13 (by simp [Hk] <;> omega)
            show V X _ w _ _ s13 []
            refine v_aload hX 2 rfl (atL dAX6_turn_0 42 rfl) ?_
            refine gf_X6_223 hX (v := ((nby (K 0) : Nat) : Int)) (((congrFun hc13_5kx0 0).trans ((congrFun hc12_5kx0 0).trans hK5))) hkv (atL dAX6_turn_0 43 rfl) ?_
            exact v_iret hX (atL dAX6_turn_0 44 rfl) (hret _ _ ⟨A.put sp3 (tn K hw (A.1 sp2)), by unfold f_turn; simp only [htk, htsp2, htsp3, hPe, hKe, Int.toNat_natCast]; rw [if_neg (by omega), if_neg (by omega), if_neg (fun q => gc11.f h51 q.2), if_neg (by omega)], hS.put hF13 hA13 hD13 hr13, hF13.fm⟩ _ (Nat.le_of_ble_eq_true rfl) (Nat.le_of_ble_eq_true rfl))
          · refine v_iconst hX (atL dAX6_turn_0 36 rfl) ?_
            exact v_iret hX (atL dAX6_turn_0 37 rfl) (hret _ _ ⟨A, by unfold f_turn; simp only [htk, htsp2, htsp3, hPe, hKe, Int.toNat_natCast]; rw [if_neg (by omega), if_neg (by omega), if_neg (fun q => gc11.f h51 q.2), if_pos (gc12.resolve_left (fun q => by omega)).2], hS.keepT hF12 gA12 gD12 hr12_sp3, hF12.fm⟩ _ (Nat.le_of_ble_eq_true rfl) (Nat.le_of_ble_eq_true rfl))
        · refine v_bipush hX (by decide +kernel) (atL dAX6_turn_0 28 rfl) ?_
          exact v_iret hX (atL dAX6_turn_0 29 rfl) (hret _ _ ⟨A, by unfold f_turn; simp only [htk, htsp2, htsp3, hPe, hKe, Int.toNat_natCast]; rw [if_neg (by omega), if_neg (by omega), if_pos ⟨by omega, gc11.t h51⟩], hS, FM.rf⟩ _ (Nat.le_of_ble_eq_true rfl) (Nat.le_of_ble_eq_true rfl))
    · exact v_throwS hX hst wd_317 xi_A (List.mem_of_getElem? (i := 9) rfl) xg_A xl_A xn_A (by decide +kernel) (atL dAX6_turn_0 17 rfl) (atL dAX6_turn_0 18 rfl) (atL dAX6_turn_0 19 rfl) (atL dAX6_turn_0 20 rfl) (atL dAX6_turn_0 21 rfl) (by rw [hR]; exact ⟨Nat.le_of_ble_eq_true rfl, Nat.le_of_ble_eq_true rfl⟩) (by rw [hR]; exact ⟨Nat.le_of_ble_eq_true rfl, Nat.le_of_ble_eq_true rfl⟩) (hx _ (Or.inr ⟨rfl, by unfold f_turn; rw [if_neg (by omega), if_pos (by omega)]⟩) _ (Nat.le_of_ble_eq_true rfl) (Nat.le_of_ble_eq_true rfl))

set_option maxHeartbeats 1000000 in
set_option maxRecDepth 100000 in
theorem c_X6_hide (l : Launch) (hst : l.stackTraces = false) (w : Wl) (σ : St) (hk0 : w.2 0 0) (A : Ab) (hS : HS σ A) (p0 : Int) (hp0 : rI p0) (p1 : Int) (hp1 : rI p1) (p2 : Int) (hp2 : rI p2) (p3 : Int) (hp3 : rI p3) (p4 : Int) (hp4 : rI p4) (p5 : Int) (hp5 : rI p5) : Cx l yX6_hide cX6_hide 13 (Option.some Jvm.ClassFile.FieldType.int) 7 149 6 36 wI [.ref (w.1 0 0), .int (iI (p0)), .int (iI (p1)), .int (iI (p2)), .int (iI (p3)), .int (iI (p4)), .int (iI (p5))] w σ (fun a σ' => ∃ A', f_hide A p0 p1 p2 p3 p4 p5 = (0, a, A') ∧ HS σ' A' ∧ FM σ σ') (Xc (f_hide A p0 p1 p2 p3 p4 p5) A) := by
  refine Cx.of (own := RX6) (lv := [(0, .ref (w.1 0 0)), (1, .int (iI (p0))), (2, .int (iI (p1))), (3, .int (iI (p2))), (4, .int (iI (p3))), (5, .int (iI (p4))), (6, .int (iI (p5)))]) (by decide +kernel) rfl (Nat.le_of_ble_eq_true rfl) rfl (fun X hX hxl hR hcl hret hx => ?_)
  subst hxl
  have hH : ∀ c q, (c, q) ∈ mn σ 0 0 → w.2 c q := fun c q h => hcl 0 0 hk0 (c, q) h
  have hp0a := hp0.1
  have hp0b := hp0.2
  have hp1a := hp1.1
  have hp1b := hp1.2
  have hp2a := hp2.1
  have hp2b := hp2.2
  have hp3a := hp3.1
  have hp3b := hp3.2
  have hp4a := hp4.1
  have hp4b := hp4.2
  have hp5a := hp5.1
  have hp5b := hp5.2
  have hA := hS.2.1
  have hD := hS.2.2.1
  refine v_aload_n hX 0 rfl (atL dAX6_hide_0 0 rfl) ?_
  refine v_iload_n hX 1 rfl (atL dAX6_hide_0 1 rfl) ?_
  refine v_callVX hX (As := [.int (iI (p0))]) (rest := []) (c_X6_keyAt (xl X) hst w σ hk0 A hS p0 hp0) lk_X6_204 hk0 (fun _ => rfl) rfl rfl rfl (by rw [hR]; exact ⟨Nat.le_of_ble_eq_true rfl, Nat.le_of_ble_eq_true rfl⟩) (by rw [hR]; exact ⟨Nat.le_of_ble_eq_true rfl, Nat.le_of_ble_eq_true rfl⟩) rfl (Nat.le_of_ble_eq_true rfl) (atL dAX6_hide_0 2 rfl) (fun E hE => hx E (Or.inl ⟨hE.1, by unfold f_hide; exact if_pos (fun q => hE.2 (by omega))⟩) _ (Nat.le_of_ble_eq_true rfl) (Nat.le_of_ble_eq_true rfl)) (fun r1 z1 g1 => ?_)
  obtain ⟨kx, hkx, hkx2, ga1, gb1⟩ := g1
  rw [gb1]
  subst ga1
  obtain ⟨P, hPe⟩ : ∃ q, A.2.2.1 kx = q := ⟨_, rfl⟩
  obtain ⟨K, hKe⟩ : ∃ q, A.2.2.2 kx = q := ⟨_, rfl⟩
  have hK : KY σ kx P K := by rw [← hPe, ← hKe]; exact hS.2.2.2.2.2.2 kx hkx2
  have hk16 := hS.2.2.2.2.1
  have hkv : w.2 5 kx := hcl 12 0 (hH 12 0 (by simp [mn, tp])) (5, kx) (List.mem_map.mpr ⟨kx, List.mem_filter.mpr ⟨List.mem_range.mpr (by omega), decide_eq_true ((hS.2.2.2.2.2.1 kx (by omega)).trans (if_pos hkx2))⟩, rfl⟩)
  have htk : p0.toNat = kx := by omega
  have hk6 : w.2 6 kx := hcl 5 kx hkv (6, kx) (by simp [mn, tp])
  have hK6 := hK.2.1
  have hKP := hK.1
  have hkp : ∀ j, j < P → w.2 3 (32 + 8 * kx + j) := fun j hj => hcl 6 kx hk6 (3, 32 + 8 * kx + j) (by simp [mn]; omega)
  have hKl := hK.len
  have hK5 := hK.2.2.1
  have hKl2 : nby (K 0) ≤ 128 ∧ 1 ≤ nby (K 0) := hKl
  have hK0 := hK.2.2.2.2.1
  have hblK := blen_pos hK0
  have hblK2 := blen_le hK.2.2.2.2.2
  have hrBK : rB (blen (K 0) - 1) ≤ nby (K 0) := by unfold rB nby; omega
  show V X _ w _ _ σ [.ref (w.1 5 kx)]
  refine v_astore hX (lv' := [(7, .ref (w.1 5 kx)), (0, .ref (w.1 0 0)), (1, .int (iI (p0))), (2, .int (iI (p1))), (3, .int (iI (p2))), (4, .int (iI (p3))), (5, .int (iI (p4))), (6, .int (iI (p5)))]) (Nat.le_of_ble_eq_true rfl) rfl (atL dAX6_hide_0 3 rfl) ?_
  refine v_aload_n hX 1 rfl (atL dAX6_hide_0 4 rfl) ?_
  refine v_iload_n hX 4 rfl (atL dAX6_hide_0 5 rfl) ?_
  refine v_callVX hX (As := [.int (iI (p2))]) (rest := []) (c_X6_slotAt (xl X) hst w σ hk0 p2 hp2) lk_X6_92 hk0 (fun _ => rfl) rfl rfl rfl (by rw [hR]; exact ⟨Nat.le_of_ble_eq_true rfl, Nat.le_of_ble_eq_true rfl⟩) (by rw [hR]; exact ⟨Nat.le_of_ble_eq_true rfl, Nat.le_of_ble_eq_true rfl⟩) rfl (Nat.le_of_ble_eq_true rfl) (atL dAX6_hide_0 6 rfl) (fun E hE => hx E (Or.inl ⟨hE.1, by unfold f_hide; exact if_pos (fun q => hE.2 (by omega))⟩) _ (Nat.le_of_ble_eq_true rfl) (Nat.le_of_ble_eq_true rfl)) (fun r2 z2 g2 => ?_)
  obtain ⟨sp2, hsp2, hsp22, ga2, gb2⟩ := g2
  rw [gb2]
  subst ga2
  have hrsp2 := hS.1 sp2 (by omega)
  obtain ⟨lsp2, hlsp2⟩ : ∃ q, (A.1 sp2).length = q := ⟨_, rfl⟩
  have hqsp2 : lsp2 ≤ 256 := by rw [← hlsp2]; exact hS.sl hsp22
  have hvsp2 : w.2 1 sp2 := hcl 11 0 (hH 11 0 (by simp [mn, tp])) (1, sp2) (by simp [mn]; omega)
  have htsp2 : p2.toNat = sp2 := by omega
  show V X _ w _ _ σ [.ref (w.1 1 sp2)]
  refine v_astore hX (lv' := [(8, .ref (w.1 1 sp2)), (7, .ref (w.1 5 kx)), (0, .ref (w.1 0 0)), (1, .int (iI (p0))), (2, .int (iI (p1))), (3, .int (iI (p2))), (4, .int (iI (p3))), (5, .int (iI (p4))), (6, .int (iI (p5)))]) (Nat.le_of_ble_eq_true rfl) rfl (atL dAX6_hide_0 7 rfl) ?_
  refine v_aload_n hX 2 rfl (atL dAX6_hide_0 8 rfl) ?_
  refine v_iload hX 6 rfl (atL dAX6_hide_0 9 rfl) ?_
  refine v_callVX hX (As := [.int (iI (p3))]) (rest := []) (c_X6_slotAt (xl X) hst w σ hk0 p3 hp3) lk_X6_92 hk0 (fun _ => rfl) rfl rfl rfl (by rw [hR]; exact ⟨Nat.le_of_ble_eq_true rfl, Nat.le_of_ble_eq_true rfl⟩) (by rw [hR]; exact ⟨Nat.le_of_ble_eq_true rfl, Nat.le_of_ble_eq_true rfl⟩) rfl (Nat.le_of_ble_eq_true rfl) (atL dAX6_hide_0 10 rfl) (fun E hE => hx E (Or.inl ⟨hE.1, by unfold f_hide; exact if_pos (fun q => hE.2 (by omega))⟩) _ (Nat.le_of_ble_eq_true rfl) (Nat.le_of_ble_eq_true rfl)) (fun r3 z3 g3 => ?_)
  obtain ⟨sp3, hsp3, hsp32, ga3, gb3⟩ := g3
  rw [gb3]
  subst ga3
  have hrsp3 := hS.1 sp3 (by omega)
  obtain ⟨lsp3, hlsp3⟩ : ∃ q, (A.1 sp3).length = q := ⟨_, rfl⟩
  have hqsp3 : lsp3 ≤ 256 := by rw [← hlsp3]; exact hS.sl hsp32
  have hvsp3 : w.2 1 sp3 := hcl 11 0 (hH 11 0 (by simp [mn, tp])) (1, sp3) (by simp [mn]; omega)
  have htsp3 : p3.toNat = sp3 := by omega
  show V X _ w _ _ σ [.ref (w.1 1 sp3)]
  refine v_astore hX (lv' := [(9, .ref (w.1 1 sp3)), (8, .ref (w.1 1 sp2)), (7, .ref (w.1 5 kx)), (0, .ref (w.1 0 0)), (1, .int (iI (p0))), (2, .int (iI (p1))), (3, .int (iI (p2))), (4, .int (iI (p3))), (5, .int (iI (p4))), (6, .int (iI (p5)))]) (Nat.le_of_ble_eq_true rfl) rfl (atL dAX6_hide_0 11 rfl) ?_
  refine v_aload_n hX 3 rfl (atL dAX6_hide_0 12 rfl) ?_
  refine v_iload hX 8 rfl (atL dAX6_hide_0 13 rfl) ?_
  refine v_callVX hX (As := [.int (iI (p4))]) (rest := []) (c_X6_slotAt (xl X) hst w σ hk0 p4 hp4) lk_X6_92 hk0 (fun _ => rfl) rfl rfl rfl (by rw [hR]; exact ⟨Nat.le_of_ble_eq_true rfl, Nat.le_of_ble_eq_true rfl⟩) (by rw [hR]; exact ⟨Nat.le_of_ble_eq_true rfl, Nat.le_of_ble_eq_true rfl⟩) rfl (Nat.le_of_ble_eq_true rfl) (atL dAX6_hide_0 14 rfl) (fun E hE => hx E (Or.inl ⟨hE.1, by unfold f_hide; exact if_pos (fun q => hE.2 (by omega))⟩) _ (Nat.le_of_ble_eq_true rfl) (Nat.le_of_ble_eq_true rfl)) (fun r4 z4 g4 => ?_)
  obtain ⟨sp4, hsp4, hsp42, ga4, gb4⟩ := g4
  rw [gb4]
  subst ga4
  have hrsp4 := hS.1 sp4 (by omega)
  obtain ⟨lsp4, hlsp4⟩ : ∃ q, (A.1 sp4).length = q := ⟨_, rfl⟩
  have hqsp4 : lsp4 ≤ 256 := by rw [← hlsp4]; exact hS.sl hsp42
  have hvsp4 : w.2 1 sp4 := hcl 11 0 (hH 11 0 (by simp [mn, tp])) (1, sp4) (by simp [mn]; omega)
  have htsp4 : p4.toNat = sp4 := by omega
  show V X _ w _ _ σ [.ref (w.1 1 sp4)]
  refine v_astore hX (lv' := [(10, .ref (w.1 1 sp4)), (9, .ref (w.1 1 sp3)), (8, .ref (w.1 1 sp2)), (7, .ref (w.1 5 kx)), (0, .ref (w.1 0 0)), (1, .int (iI (p0))), (2, .int (iI (p1))), (3, .int (iI (p2))), (4, .int (iI (p3))), (5, .int (iI (p4))), (6, .int (iI (p5)))]) (Nat.le_of_ble_eq_true rfl) rfl (atL dAX6_hide_0 15 rfl) ?_
  refine v_aload_n hX 4 rfl (atL dAX6_hide_0 16 rfl) ?_
  refine v_iload hX 10 rfl (atL dAX6_hide_0 17 rfl) ?_
  refine v_callVX hX (As := [.int (iI (p5))]) (rest := []) (c_X6_slotAt (xl X) hst w σ hk0 p5 hp5) lk_X6_92 hk0 (fun _ => rfl) rfl rfl rfl (by rw [hR]; exact ⟨Nat.le_of_ble_eq_true rfl, Nat.le_of_ble_eq_true rfl⟩) (by rw [hR]; exact ⟨Nat.le_of_ble_eq_true rfl, Nat.le_of_ble_eq_true rfl⟩) rfl (Nat.le_of_ble_eq_true rfl) (atL dAX6_hide_0 18 rfl) (fun E hE => hx E (Or.inl ⟨hE.1, by unfold f_hide; exact if_pos (fun q => hE.2 (by omega))⟩) _ (Nat.le_of_ble_eq_true rfl) (Nat.le_of_ble_eq_true rfl)) (fun r5 z5 g5 => ?_)
  obtain ⟨sp5, hsp5, hsp52, ga5, gb5⟩ := g5
  rw [gb5]
  subst ga5
  have hrsp5 := hS.1 sp5 (by omega)
  obtain ⟨lsp5, hlsp5⟩ : ∃ q, (A.1 sp5).length = q := ⟨_, rfl⟩
  have hqsp5 : lsp5 ≤ 256 := by rw [← hlsp5]; exact hS.sl hsp52
  have hvsp5 : w.2 1 sp5 := hcl 11 0 (hH 11 0 (by simp [mn, tp])) (1, sp5) (by simp [mn]; omega)
  have htsp5 : p5.toNat = sp5 := by omega
  show V X _ w _ _ σ [.ref (w.1 1 sp5)]
  refine v_astore hX (lv' := [(11, .ref (w.1 1 sp5)), (10, .ref (w.1 1 sp4)), (9, .ref (w.1 1 sp3)), (8, .ref (w.1 1 sp2)), (7, .ref (w.1 5 kx)), (0, .ref (w.1 0 0)), (1, .int (iI (p0))), (2, .int (iI (p1))), (3, .int (iI (p2))), (4, .int (iI (p3))), (5, .int (iI (p4))), (6, .int (iI (p5)))]) (Nat.le_of_ble_eq_true rfl) rfl (atL dAX6_hide_0 19 rfl) ?_
  refine v_aload_n hX 5 rfl (atL dAX6_hide_0 20 rfl) ?_
  refine v_iload_n hX 7 rfl (atL dAX6_hide_0 21 rfl) ?_
  refine v_callVX hX (As := [.int (iI (p1))]) (rest := []) (c_X6_checkHash (xl X) hst w σ hk0 p1 hp1) lk_X6_163 hk0 (fun _ => rfl) rfl rfl rfl (by rw [hR]; exact ⟨Nat.le_of_ble_eq_true rfl, Nat.le_of_ble_eq_true rfl⟩) (by rw [hR]; exact ⟨Nat.le_of_ble_eq_true rfl, Nat.le_of_ble_eq_true rfl⟩) rfl (Nat.le_of_ble_eq_true rfl) (atL dAX6_hide_0 22 rfl) (fun E hE => hx E (Or.inr ⟨hE.1, by unfold f_hide; rw [if_neg (by omega)]; exact if_pos (by have := hE.2; omega)⟩) _ (Nat.le_of_ble_eq_true rfl) (Nat.le_of_ble_eq_true rfl)) (fun r6 z6 g6 => ?_)
  obtain ⟨hHs, gb6⟩ := g6
  rw [gb6]
  have hll := hl_le p1
  have hlg := hl_ge p1
  show V X _ w _ _ σ []
  refine v_iload_n hX 7 rfl (atL dAX6_hide_0 23 rfl) ?_
  refine v_callS hX (As := [.int (iI (p1))]) (rest := []) (c_X1_lengthOf (xl X) w σ p1 hp1) lk_X6_224 rfl (by rw [hR]; exact ⟨Nat.le_of_ble_eq_true rfl, Nat.le_of_ble_eq_true rfl⟩) (by rw [hR]; exact ⟨Nat.le_of_ble_eq_true rfl, Nat.le_of_ble_eq_true rfl⟩) rfl (Nat.le_of_ble_eq_true rfl) (atL dAX6_hide_0 24 rfl) (fun r7 z7 g7 => ?_)
  obtain ⟨ga7, gb7⟩ := g7
  rw [gb7]
  subst ga7
  show V X _ w _ _ σ [.int (iI ((hl p1 : Int)))]
  refine v_istore hX (lv' := [(12, .int (iI ((hl p1 : Int)))), (11, .ref (w.1 1 sp5)), (10, .ref (w.1 1 sp4)), (9, .ref (w.1 1 sp3)), (8, .ref (w.1 1 sp2)), (7, .ref (w.1 5 kx)), (0, .ref (w.1 0 0)), (1, .int (iI (p0))), (2, .int (iI (p1))), (3, .int (iI (p2))), (4, .int (iI (p3))), (5, .int (iI (p4))), (6, .int (iI (p5)))]) (Nat.le_of_ble_eq_true rfl) rfl (atL dAX6_hide_0 25 rfl) ?_
  refine v_aload hX 4 rfl (atL dAX6_hide_0 26 rfl) ?_
  refine gf_X6_86 hX (v := ((lsp2 : Nat) : Int)) ((hrsp2.len.trans (by rw [hlsp2]))) hvsp2 (atL dAX6_hide_0 27 rfl) ?_
  refine v_aload hX 5 rfl (atL dAX6_hide_0 28 rfl) ?_
  refine gf_X6_223 hX (v := ((nby (K 0) : Nat) : Int)) (hK5) hkv (atL dAX6_hide_0 29 rfl) ?_
  refine v_iconst hX (atL dAX6_hide_0 30 rfl) ?_
  refine v_iload hX 0 rfl (atL dAX6_hide_0 31 rfl) ?_
  refine v_imul hX (iI_mul _ _) (atL dAX6_hide_0 32 rfl) ?_
  refine v_isub hX (iI_sub _ _) (atL dAX6_hide_0 33 rfl) ?_
  refine v_iconst hX (atL dAX6_hide_0 34 rfl) ?_
  refine v_isub hX (iI_sub _ _) (atL dAX6_hide_0 35 rfl) ?_
  refine v_icmp_le hX ⟨by omega, by omega⟩ ⟨by omega, by omega⟩ (tgt := 72) (atL dAX6_hide_0 36 rfl) (by decide) (fun h66 => ?_) (fun h66 => ?_)
  · refine v_aload hX 2 rfl (atL dAX6_hide_0 39 rfl) ?_
    refine gf_X6_86 hX (v := ((lsp4 : Nat) : Int)) ((hrsp4.len.trans (by rw [hlsp4]))) hvsp4 (atL dAX6_hide_0 40 rfl) ?_
    refine v_iload hX 0 rfl (atL dAX6_hide_0 41 rfl) ?_
    refine v_icmp_eq hX ⟨by omega, by omega⟩ ⟨by omega, by omega⟩ (tgt := 85) (atL dAX6_hide_0 42 rfl) (by decide) (fun h79 => ?_) (fun h79 => ?_)
    · refine v_aload_n hX 6 rfl (atL dAX6_hide_0 45 rfl) ?_
      refine gf_X6_51 hX hk0 (atL dAX6_hide_0 46 rfl) ?_
      refine v_aload_n hX 6 rfl (atL dAX6_hide_0 47 rfl) ?_
      refine gf_X6_55 hX hk0 (atL dAX6_hide_0 48 rfl) ?_
      refine v_aload hX 5 rfl (atL dAX6_hide_0 49 rfl) ?_
      refine gf_X6_223 hX (v := ((nby (K 0) : Nat) : Int)) (hK5) hkv (atL dAX6_hide_0 50 rfl) ?_
      refine v_iload_n hX 8 rfl (atL dAX6_hide_0 51 rfl) ?_
      refine v_aload hX 4 rfl (atL dAX6_hide_0 52 rfl) ?_
      refine v_aload hX 3 rfl (atL dAX6_hide_0 53 rfl) ?_
      refine v_aload hX 2 rfl (atL dAX6_hide_0 54 rfl) ?_
      refine v_callV hX (As := [.ref (w.1 1 25), .int (iI (((nby (K 0) : Nat) : Int))), .int (iI (p1)), .ref (w.1 1 sp2), .ref (w.1 1 sp3), .ref (w.1 1 sp4)]) (rest := []) (c_X3_hideIn (xl X) w σ (hH 10 0 (by simp [mn, tp])) (hH 1 25 (by simp [mn, tp])) hA (nby (K 0)) (by omega) p1 hp1 sp2 hvsp2 (by omega) (A.1 sp2) hrsp2 sp3 hvsp3 (by omega) (A.1 sp3) hrsp3 sp4 hvsp4 (by omega) (A.1 sp4) hrsp4 (by rw [hlsp2]; omega) (by rw [hlsp4]; omega)) lk_X6_227 (hH 10 0 (by simp [mn, tp])) (fun _ => rfl) rfl rfl rfl (by rw [hR]; exact ⟨Nat.le_of_ble_eq_true rfl, Nat.le_of_ble_eq_true rfl⟩) (by rw [hR]; exact ⟨Nat.le_of_ble_eq_true rfl, Nat.le_of_ble_eq_true rfl⟩) rfl (Nat.le_of_ble_eq_true rfl) (atL dAX6_hide_0 55 rfl) (fun _ s8 e8 => ?_)
      obtain ⟨hr8, hB8, hf8⟩ := e8
      have hl8 : (hideL p1 (nby (K 0)) (A.1 sp2) (A.1 sp3) (A.1 sp4)).length = nby (K 0) := by exact hideL_len (by rw [hlsp2]; omega)
      have hA8 := hB8
      have hD8 := hD.fr hf8 (by simp [SP])
      have hr8_sp2 := hrsp2.fr hf8 (by simp [SP] <;> omega) (by simp [SP] <;> omega)
      have hr8_sp3 := hrsp3.fr hf8 (by simp [SP] <;> omega) (by simp [SP] <;> omega)
      have hr8_sp4 := hrsp4.fr hf8 (by simp [SP] <;> omega) (by simp [SP] <;> omega)
      have hr8_sp5 := hrsp5.fr hf8 (by simp [SP] <;> omega) (by simp [SP] <;> omega)
      have hc8_400 := hf8 4 0 (by simp [SP] <;> omega)
      have hc8_5kx0 := hf8 5 kx (by simp [SP] <;> omega)
      have hF8 := (FH.rf : FH sp5 σ σ).tr hf8 (by simp [Hk, SP] <;> omega)
      show V X _ w _ _ s8 []
      refine v_aload_n hX 6 rfl (atL dAX6_hide_0 56 rfl) ?_
      refine v_aload hX 5 rfl (atL dAX6_hide_0 57 rfl) ?_
      refine v_iconst hX (atL dAX6_hide_0 58 rfl) ?_
      refine v_aload hX 1 rfl (atL dAX6_hide_0 59 rfl) ?_
      refine v_callV hX (As := [.ref (w.1 5 kx), .int (iI (0)), .ref (w.1 1 sp5)]) (rest := []) (c_X6_putTurned (xl X) w s8 hk0 hA8 hD8 kx hkv P K (hK.frH hF8) 0 (by omega) sp5 hvsp5 (by omega) (hideL p1 (nby (K 0)) (A.1 sp2) (A.1 sp3) (A.1 sp4)) hr8 (hideL_lt (by rw [hlsp2]; omega) hK0 rfl hrsp2.by hrsp4.by)) lk_X6_231 hk0 (fun _ => rfl) rfl rfl rfl (by rw [hR]; exact ⟨Nat.le_of_ble_eq_true rfl, Nat.le_of_ble_eq_true rfl⟩) (by rw [hR]; exact ⟨Nat.le_of_ble_eq_true rfl, Nat.le_of_ble_eq_true rfl⟩) rfl (Nat.le_of_ble_eq_true rfl) (atL dAX6_hide_1 0 rfl) (fun r9 s9 e9 => ?_)
      obtain ⟨ga9, gR9, gA9, gD9, gF9⟩ := e9
      subst ga9
      have hF9 := hF8.tr2 gF9
      show V X _ w _ _ s9 [.int (iI (((nby (K 0) : Nat) : Int)))]
      exact v_iret hX (atL dAX6_hide_1 1 rfl) (hret _ _ ⟨A.put sp5 (tn K 0 (hideL p1 (nby (K 0)) (A.1 sp2) (A.1 sp3) (A.1 sp4))), by unfold f_hide; simp only [htk, htsp2, htsp3, htsp4, htsp5, hKe]; rw [if_neg (by omega), if_neg (by omega), if_neg (by rw [hlsp2]; omega), if_neg (by rw [hlsp4]; omega)], hS.put hF9 gA9 gD9 gR9, hF9.fm⟩ _ (Nat.le_of_ble_eq_true rfl) (Nat.le_of_ble_eq_true rfl))
    · refine v_bipush hX (by decide +kernel) (atL dAX6_hide_0 43 rfl) ?_
      exact v_iret hX (atL dAX6_hide_0 44 rfl) (hret _ _ ⟨A, by unfold f_hide; simp only [htk, htsp2, htsp3, htsp4, htsp5, hKe]; rw [if_neg (by omega), if_neg (by omega), if_neg (by rw [hlsp2]; omega), if_pos (by rw [hlsp4]; omega)], hS, FM.rf⟩ _ (Nat.le_of_ble_eq_true rfl) (Nat.le_of_ble_eq_true rfl))
  · refine v_bipush hX (by decide +kernel) (atL dAX6_hide_0 37 rfl) ?_
    exact v_iret hX (atL dAX6_hide_0 38 rfl) (hret _ _ ⟨A, by unfold f_hide; simp only [htk, htsp2, htsp3, htsp4, htsp5, hKe]; rw [if_neg (by omega), if_neg (by omega), if_pos (by rw [hlsp2]; omega)], hS, FM.rf⟩ _ (Nat.le_of_ble_eq_true rfl) (Nat.le_of_ble_eq_true rfl))

set_option maxHeartbeats 1000000 in
set_option maxRecDepth 100000 in
theorem c_X6_show (l : Launch) (hst : l.stackTraces = false) (w : Wl) (σ : St) (hk0 : w.2 0 0) (A : Ab) (hS : HS σ A) (p0 : Int) (hp0 : rI p0) (p1 : Int) (hp1 : rI p1) (p2 : Int) (hp2 : rI p2) (p3 : Int) (hp3 : rI p3) (p4 : Int) (hp4 : rI p4) : Cx l yX6_show cX6_show 10 (Option.some Jvm.ClassFile.FieldType.int) 7 148 5 30 wI [.ref (w.1 0 0), .int (iI (p0)), .int (iI (p1)), .int (iI (p2)), .int (iI (p3)), .int (iI (p4))] w σ (fun a σ' => ∃ A', f_show A p0 p1 p2 p3 p4 = (0, a, A') ∧ HS σ' A' ∧ FM σ σ') (Xc (f_show A p0 p1 p2 p3 p4) A) := by
  refine Cx.of (own := RX6) (lv := [(0, .ref (w.1 0 0)), (1, .int (iI (p0))), (2, .int (iI (p1))), (3, .int (iI (p2))), (4, .int (iI (p3))), (5, .int (iI (p4)))]) (by decide +kernel) rfl (Nat.le_of_ble_eq_true rfl) rfl (fun X hX hxl hR hcl hret hx => ?_)
  subst hxl
  have hH : ∀ c q, (c, q) ∈ mn σ 0 0 → w.2 c q := fun c q h => hcl 0 0 hk0 (c, q) h
  have hp0a := hp0.1
  have hp0b := hp0.2
  have hp1a := hp1.1
  have hp1b := hp1.2
  have hp2a := hp2.1
  have hp2b := hp2.2
  have hp3a := hp3.1
  have hp3b := hp3.2
  have hp4a := hp4.1
  have hp4b := hp4.2
  have hA := hS.2.1
  have hD := hS.2.2.1
  refine v_aload_n hX 0 rfl (atL dAX6_show_0 0 rfl) ?_
  refine v_iload_n hX 1 rfl (atL dAX6_show_0 1 rfl) ?_
  refine v_callVX hX (As := [.int (iI (p0))]) (rest := []) (c_X6_keyAt (xl X) hst w σ hk0 A hS p0 hp0) lk_X6_204 hk0 (fun _ => rfl) rfl rfl rfl (by rw [hR]; exact ⟨Nat.le_of_ble_eq_true rfl, Nat.le_of_ble_eq_true rfl⟩) (by rw [hR]; exact ⟨Nat.le_of_ble_eq_true rfl, Nat.le_of_ble_eq_true rfl⟩) rfl (Nat.le_of_ble_eq_true rfl) (atL dAX6_show_0 2 rfl) (fun E hE => hx E (Or.inl ⟨hE.1, by unfold f_show; exact if_pos (fun q => hE.2 (by omega))⟩) _ (Nat.le_of_ble_eq_true rfl) (Nat.le_of_ble_eq_true rfl)) (fun r1 z1 g1 => ?_)
  obtain ⟨kx, hkx, hkx2, ga1, gb1⟩ := g1
  rw [gb1]
  subst ga1
  obtain ⟨P, hPe⟩ : ∃ q, A.2.2.1 kx = q := ⟨_, rfl⟩
  obtain ⟨K, hKe⟩ : ∃ q, A.2.2.2 kx = q := ⟨_, rfl⟩
  have hK : KY σ kx P K := by rw [← hPe, ← hKe]; exact hS.2.2.2.2.2.2 kx hkx2
  have hk16 := hS.2.2.2.2.1
  have hkv : w.2 5 kx := hcl 12 0 (hH 12 0 (by simp [mn, tp])) (5, kx) (List.mem_map.mpr ⟨kx, List.mem_filter.mpr ⟨List.mem_range.mpr (by omega), decide_eq_true ((hS.2.2.2.2.2.1 kx (by omega)).trans (if_pos hkx2))⟩, rfl⟩)
  have htk : p0.toNat = kx := by omega
  have hk6 : w.2 6 kx := hcl 5 kx hkv (6, kx) (by simp [mn, tp])
  have hK6 := hK.2.1
  have hKP := hK.1
  have hkp : ∀ j, j < P → w.2 3 (32 + 8 * kx + j) := fun j hj => hcl 6 kx hk6 (3, 32 + 8 * kx + j) (by simp [mn]; omega)
  have hKl := hK.len
  have hK5 := hK.2.2.1
  have hKl2 : nby (K 0) ≤ 128 ∧ 1 ≤ nby (K 0) := hKl
  have hK0 := hK.2.2.2.2.1
  have hblK := blen_pos hK0
  have hblK2 := blen_le hK.2.2.2.2.2
  have hrBK : rB (blen (K 0) - 1) ≤ nby (K 0) := by unfold rB nby; omega
  show V X _ w _ _ σ [.ref (w.1 5 kx)]
  refine v_astore hX (lv' := [(6, .ref (w.1 5 kx)), (0, .ref (w.1 0 0)), (1, .int (iI (p0))), (2, .int (iI (p1))), (3, .int (iI (p2))), (4, .int (iI (p3))), (5, .int (iI (p4)))]) (Nat.le_of_ble_eq_true rfl) rfl (atL dAX6_show_0 3 rfl) ?_
  refine v_aload_n hX 1 rfl (atL dAX6_show_0 4 rfl) ?_
  refine v_iload_n hX 4 rfl (atL dAX6_show_0 5 rfl) ?_
  refine v_callVX hX (As := [.int (iI (p2))]) (rest := []) (c_X6_slotAt (xl X) hst w σ hk0 p2 hp2) lk_X6_92 hk0 (fun _ => rfl) rfl rfl rfl (by rw [hR]; exact ⟨Nat.le_of_ble_eq_true rfl, Nat.le_of_ble_eq_true rfl⟩) (by rw [hR]; exact ⟨Nat.le_of_ble_eq_true rfl, Nat.le_of_ble_eq_true rfl⟩) rfl (Nat.le_of_ble_eq_true rfl) (atL dAX6_show_0 6 rfl) (fun E hE => hx E (Or.inl ⟨hE.1, by unfold f_show; exact if_pos (fun q => hE.2 (by omega))⟩) _ (Nat.le_of_ble_eq_true rfl) (Nat.le_of_ble_eq_true rfl)) (fun r2 z2 g2 => ?_)
  obtain ⟨sp2, hsp2, hsp22, ga2, gb2⟩ := g2
  rw [gb2]
  subst ga2
  have hrsp2 := hS.1 sp2 (by omega)
  obtain ⟨lsp2, hlsp2⟩ : ∃ q, (A.1 sp2).length = q := ⟨_, rfl⟩
  have hqsp2 : lsp2 ≤ 256 := by rw [← hlsp2]; exact hS.sl hsp22
  have hvsp2 : w.2 1 sp2 := hcl 11 0 (hH 11 0 (by simp [mn, tp])) (1, sp2) (by simp [mn]; omega)
  have htsp2 : p2.toNat = sp2 := by omega
  show V X _ w _ _ σ [.ref (w.1 1 sp2)]
  refine v_astore hX (lv' := [(7, .ref (w.1 1 sp2)), (6, .ref (w.1 5 kx)), (0, .ref (w.1 0 0)), (1, .int (iI (p0))), (2, .int (iI (p1))), (3, .int (iI (p2))), (4, .int (iI (p3))), (5, .int (iI (p4)))]) (Nat.le_of_ble_eq_true rfl) rfl (atL dAX6_show_0 7 rfl) ?_
  refine v_aload_n hX 2 rfl (atL dAX6_show_0 8 rfl) ?_
  refine v_iload hX 6 rfl (atL dAX6_show_0 9 rfl) ?_
  refine v_callVX hX (As := [.int (iI (p3))]) (rest := []) (c_X6_slotAt (xl X) hst w σ hk0 p3 hp3) lk_X6_92 hk0 (fun _ => rfl) rfl rfl rfl (by rw [hR]; exact ⟨Nat.le_of_ble_eq_true rfl, Nat.le_of_ble_eq_true rfl⟩) (by rw [hR]; exact ⟨Nat.le_of_ble_eq_true rfl, Nat.le_of_ble_eq_true rfl⟩) rfl (Nat.le_of_ble_eq_true rfl) (atL dAX6_show_0 10 rfl) (fun E hE => hx E (Or.inl ⟨hE.1, by unfold f_show; exact if_pos (fun q => hE.2 (by omega))⟩) _ (Nat.le_of_ble_eq_true rfl) (Nat.le_of_ble_eq_true rfl)) (fun r3 z3 g3 => ?_)
  obtain ⟨sp3, hsp3, hsp32, ga3, gb3⟩ := g3
  rw [gb3]
  subst ga3
  have hrsp3 := hS.1 sp3 (by omega)
  obtain ⟨lsp3, hlsp3⟩ : ∃ q, (A.1 sp3).length = q := ⟨_, rfl⟩
  have hqsp3 : lsp3 ≤ 256 := by rw [← hlsp3]; exact hS.sl hsp32
  have hvsp3 : w.2 1 sp3 := hcl 11 0 (hH 11 0 (by simp [mn, tp])) (1, sp3) (by simp [mn]; omega)
  have htsp3 : p3.toNat = sp3 := by omega
  show V X _ w _ _ σ [.ref (w.1 1 sp3)]
  refine v_astore hX (lv' := [(8, .ref (w.1 1 sp3)), (7, .ref (w.1 1 sp2)), (6, .ref (w.1 5 kx)), (0, .ref (w.1 0 0)), (1, .int (iI (p0))), (2, .int (iI (p1))), (3, .int (iI (p2))), (4, .int (iI (p3))), (5, .int (iI (p4)))]) (Nat.le_of_ble_eq_true rfl) rfl (atL dAX6_show_0 11 rfl) ?_
  refine v_aload_n hX 3 rfl (atL dAX6_show_0 12 rfl) ?_
  refine v_iload hX 8 rfl (atL dAX6_show_0 13 rfl) ?_
  refine v_callVX hX (As := [.int (iI (p4))]) (rest := []) (c_X6_slotAt (xl X) hst w σ hk0 p4 hp4) lk_X6_92 hk0 (fun _ => rfl) rfl rfl rfl (by rw [hR]; exact ⟨Nat.le_of_ble_eq_true rfl, Nat.le_of_ble_eq_true rfl⟩) (by rw [hR]; exact ⟨Nat.le_of_ble_eq_true rfl, Nat.le_of_ble_eq_true rfl⟩) rfl (Nat.le_of_ble_eq_true rfl) (atL dAX6_show_0 14 rfl) (fun E hE => hx E (Or.inl ⟨hE.1, by unfold f_show; exact if_pos (fun q => hE.2 (by omega))⟩) _ (Nat.le_of_ble_eq_true rfl) (Nat.le_of_ble_eq_true rfl)) (fun r4 z4 g4 => ?_)
  obtain ⟨sp4, hsp4, hsp42, ga4, gb4⟩ := g4
  rw [gb4]
  subst ga4
  have hrsp4 := hS.1 sp4 (by omega)
  obtain ⟨lsp4, hlsp4⟩ : ∃ q, (A.1 sp4).length = q := ⟨_, rfl⟩
  have hqsp4 : lsp4 ≤ 256 := by rw [← hlsp4]; exact hS.sl hsp42
  have hvsp4 : w.2 1 sp4 := hcl 11 0 (hH 11 0 (by simp [mn, tp])) (1, sp4) (by simp [mn]; omega)
  have htsp4 : p4.toNat = sp4 := by omega
  show V X _ w _ _ σ [.ref (w.1 1 sp4)]
  refine v_astore hX (lv' := [(9, .ref (w.1 1 sp4)), (8, .ref (w.1 1 sp3)), (7, .ref (w.1 1 sp2)), (6, .ref (w.1 5 kx)), (0, .ref (w.1 0 0)), (1, .int (iI (p0))), (2, .int (iI (p1))), (3, .int (iI (p2))), (4, .int (iI (p3))), (5, .int (iI (p4)))]) (Nat.le_of_ble_eq_true rfl) rfl (atL dAX6_show_0 15 rfl) ?_
  refine v_aload_n hX 4 rfl (atL dAX6_show_0 16 rfl) ?_
  refine v_iload_n hX 6 rfl (atL dAX6_show_0 17 rfl) ?_
  refine v_callVX hX (As := [.int (iI (p1))]) (rest := []) (c_X6_checkHash (xl X) hst w σ hk0 p1 hp1) lk_X6_163 hk0 (fun _ => rfl) rfl rfl rfl (by rw [hR]; exact ⟨Nat.le_of_ble_eq_true rfl, Nat.le_of_ble_eq_true rfl⟩) (by rw [hR]; exact ⟨Nat.le_of_ble_eq_true rfl, Nat.le_of_ble_eq_true rfl⟩) rfl (Nat.le_of_ble_eq_true rfl) (atL dAX6_show_0 18 rfl) (fun E hE => hx E (Or.inr ⟨hE.1, by unfold f_show; rw [if_neg (by omega)]; exact if_pos (by have := hE.2; omega)⟩) _ (Nat.le_of_ble_eq_true rfl) (Nat.le_of_ble_eq_true rfl)) (fun r5 z5 g5 => ?_)
  obtain ⟨hHs, gb5⟩ := g5
  rw [gb5]
  have hll := hl_le p1
  have hlg := hl_ge p1
  show V X _ w _ _ σ []
  refine v_aload hX 3 rfl (atL dAX6_show_0 19 rfl) ?_
  refine v_callV hX (As := []) (rest := []) (c_X2_isOpen (xl X) w σ kx hkv P K hK) lk_X6_216 hkv (fun _ => rfl) rfl rfl rfl (by rw [hR]; exact ⟨Nat.le_of_ble_eq_true rfl, Nat.le_of_ble_eq_true rfl⟩) (by rw [hR]; exact ⟨Nat.le_of_ble_eq_true rfl, Nat.le_of_ble_eq_true rfl⟩) rfl (Nat.le_of_ble_eq_true rfl) (atL dAX6_show_0 20 rfl) (fun r6 z6 g6 => ?_)
  obtain ⟨gc6, gb6⟩ := g6
  rw [gb6]
  have gd6 : r6 = 0 ∨ r6 = 1 := by rcases gc6 with q | q <;> omega
  show V X _ w _ _ σ [.int (iI (r6))]
  refine v_if_eq hX ⟨by omega, by omega⟩ (tgt := 46) (atL dAX6_show_0 21 rfl) (by decide) (fun h40 => ?_) (fun h40 => ?_)
  · have hP8 : P = 8 := by have := gc6.f h40; omega
    refine v_aload hX 3 rfl (atL dAX6_show_0 24 rfl) ?_
    refine gf_X6_223 hX (v := ((nby (K 0) : Nat) : Int)) (hK5) hkv (atL dAX6_show_0 25 rfl) ?_
    refine v_iconst hX (atL dAX6_show_0 26 rfl) ?_
    refine v_iload_n hX 6 rfl (atL dAX6_show_0 27 rfl) ?_
    refine v_callS hX (As := [.int (iI (p1))]) (rest := [.int (iI (2)), .int (iI (((nby (K 0) : Nat) : Int)))]) (c_X1_lengthOf (xl X) w σ p1 hp1) lk_X6_224 rfl (by rw [hR]; exact ⟨Nat.le_of_ble_eq_true rfl, Nat.le_of_ble_eq_true rfl⟩) (by rw [hR]; exact ⟨Nat.le_of_ble_eq_true rfl, Nat.le_of_ble_eq_true rfl⟩) rfl (Nat.le_of_ble_eq_true rfl) (atL dAX6_show_0 28 rfl) (fun r7 z7 g7 => ?_)
    obtain ⟨ga7, gb7⟩ := g7
    rw [gb7]
    subst ga7
    show V X _ w _ _ σ [.int (iI ((hl p1 : Int))), .int (iI (2)), .int (iI (((nby (K 0) : Nat) : Int)))]
    refine v_imul hX (iI_mul _ _) (atL dAX6_show_0 29 rfl) ?_
    refine v_iconst hX (atL dAX6_show_0 30 rfl) ?_
    refine v_iadd hX (iI_add _ _) (atL dAX6_show_0 31 rfl) ?_
    refine v_icmp_lt hX ⟨by omega, by omega⟩ ⟨by omega, by omega⟩ (tgt := 95) (atL dAX6_show_0 32 rfl) (by decide) (fun h59 => ?_) (fun h59 => ?_)
    · refine v_bipush hX (by decide +kernel) (atL dAX6_show_0 49 rfl) ?_
      exact v_iret hX (atL dAX6_show_0 50 rfl) (hret _ _ ⟨A, by unfold f_show; simp only [htk, htsp2, htsp3, htsp4, hPe, hKe]; rw [if_neg (by omega), if_neg (by omega), if_neg (gc6.f h40), if_pos (Or.inl (by omega))], hS, FM.rf⟩ _ (Nat.le_of_ble_eq_true rfl) (Nat.le_of_ble_eq_true rfl))
    · refine v_aload_n hX 4 rfl (atL dAX6_show_0 33 rfl) ?_
      refine v_aload hX 3 rfl (atL dAX6_show_0 34 rfl) ?_
      refine v_iconst hX (atL dAX6_show_0 35 rfl) ?_
      refine v_aload hX 2 rfl (atL dAX6_show_0 36 rfl) ?_
      refine v_callV hX (As := [.ref (w.1 5 kx), .int (iI (1)), .ref (w.1 1 sp2)]) (rest := []) (c_X6_turnWholeRow (xl X) w σ hk0 hA hD kx hkv P K hK 1 (by omega) sp2 hvsp2 (by omega) (A.1 sp2) hrsp2 (by rw [hlsp2]; omega)) lk_X6_235 hk0 (fun _ => rfl) rfl rfl rfl (by rw [hR]; exact ⟨Nat.le_of_ble_eq_true rfl, Nat.le_of_ble_eq_true rfl⟩) (by rw [hR]; exact ⟨Nat.le_of_ble_eq_true rfl, Nat.le_of_ble_eq_true rfl⟩) rfl (Nat.le_of_ble_eq_true rfl) (atL dAX6_show_0 37 rfl) (fun r8 s8 e8 => ?_)
      obtain ⟨gc8, gA8, gD8, gF8⟩ := e8
      have gd8 : r8 = 0 ∨ r8 = 1 := by rcases gc8 with q | q <;> omega
      have hr8_sp2 := hrsp2.frH gF8 (by omega) (by omega)
      have hr8_sp3 := hrsp3.frH gF8 (by omega) (by omega)
      have hr8_sp4 := hrsp4.frH gF8 (by omega) (by omega)
      have hc8_400 := gF8 4 0 (Or.inr (Or.inr (Or.inl ⟨by omega, by omega⟩))) (fun q => by omega)
      have hc8_5kx0 := gF8 5 kx (Or.inr (Or.inr (Or.inl ⟨by omega, by omega⟩))) (fun q => by omega)
      have hF8 := (FH.rf : FH sp4 σ σ).tr2 (gF8.mono (t := sp4) (by omega))
      show V X _ w _ _ s8 [.int (iI (r8))]
      refine v_if_eq hX ⟨by omega, by omega⟩ (tgt := 95) (atL dAX6_show_0 38 rfl) (by decide) (fun h71 => ?_) (fun h71 => ?_)
      · refine v_bipush hX (by decide +kernel) (atL dAX6_show_0 49 rfl) ?_
        exact v_iret hX (atL dAX6_show_0 50 rfl) (hret _ _ ⟨A, by unfold f_show; simp only [htk, htsp2, htsp3, htsp4, hPe, hKe]; rw [if_neg (by omega), if_neg (by omega), if_neg (gc6.f h40), if_pos (Or.inr (Or.inl (gc8.resolve_left (fun q => by omega)).2))], hS.keepT hF8 gA8 gD8 hr8_sp4, hF8.fm⟩ _ (Nat.le_of_ble_eq_true rfl) (Nat.le_of_ble_eq_true rfl))
      · have hr26 : RW s8 26 (tn K 1 (A.1 sp2)) := (gc8.resolve_right (fun q => by omega)).2.2.2
        have hw26 : wr_ K (A.1 sp2) := ⟨(gc8.resolve_right (fun q => by omega)).2.1, (gc8.resolve_right (fun q => by omega)).2.2.1⟩
        refine v_aload_n hX 4 rfl (atL dAX6_show_0 39 rfl) ?_
        refine gf_X6_51 hX hk0 (atL dAX6_show_0 40 rfl) ?_
        refine v_aload_n hX 4 rfl (atL dAX6_show_0 41 rfl) ?_
        refine gf_X6_58 hX hk0 (atL dAX6_show_0 42 rfl) ?_
        refine v_iload_n hX 6 rfl (atL dAX6_show_0 43 rfl) ?_
        refine v_aload hX 1 rfl (atL dAX6_show_0 44 rfl) ?_
        refine v_aload_n hX 4 rfl (atL dAX6_show_0 45 rfl) ?_
        refine gf_X6_55 hX hk0 (atL dAX6_show_0 46 rfl) ?_
        refine v_callV hX (As := [.ref (w.1 1 26), .int (iI (p1)), .ref (w.1 1 sp3), .ref (w.1 1 25)]) (rest := []) (c_X3_showFrom (xl X) w s8 (hH 10 0 (by simp [mn, tp])) (hH 1 25 (by simp [mn, tp])) (hH 1 26 (by simp [mn, tp])) gA8 p1 hp1 (tn K 1 (A.1 sp2)) hr26 (by rw [tn_len]; omega) sp3 hvsp3 (by omega) (A.1 sp3) hr8_sp3) lk_X6_238 (hH 10 0 (by simp [mn, tp])) (fun _ => rfl) rfl rfl rfl (by rw [hR]; exact ⟨Nat.le_of_ble_eq_true rfl, Nat.le_of_ble_eq_true rfl⟩) (by rw [hR]; exact ⟨Nat.le_of_ble_eq_true rfl, Nat.le_of_ble_eq_true rfl⟩) rfl (Nat.le_of_ble_eq_true rfl) (atL dAX6_show_0 47 rfl) (fun r9 s9 e9 => ?_)
        obtain ⟨gc9, hB9, hf9⟩ := e9
        have gd9 : r9 = 0 ∨ r9 = 1 := by rcases gc9 with q | q <;> omega
        have hA9 := hB9
        have hD9 := gD8.fr hf9 (by simp [SP])
        have hr9_sp2 := hr8_sp2.fr hf9 (by simp [SP] <;> omega) (by simp [SP] <;> omega)
        have hr9_sp3 := hr8_sp3.fr hf9 (by simp [SP] <;> omega) (by simp [SP] <;> omega)
        have hr9_sp4 := hr8_sp4.fr hf9 (by simp [SP] <;> omega) (by simp [SP] <;> omega)
        have hr9_26 := hr26.fr hf9 (by simp [SP] <;> omega) (by simp [SP] <;> omega)
        have hc9_400 := hf9 4 0 (by simp [SP] <;> omega)
        have hc9_5kx0 := hf9 5 kx (by simp [SP] <;> omega)
        have hF9 := hF8.tr hf9 (by simp [Hk, SP] <;> omega)
        show V X _ w _ _ s9 [.int (iI (r9))]
        refine v_if_ne hX ⟨by omega, by omega⟩ (tgt := 98) (atL dAX6_show_0 48 rfl) (by decide) (fun h92 => ?_) (fun h92 => ?_)
        · have hr25 := (gc9.resolve_right (fun q => by omega)).2.2
          have hok25 := (gc9.resolve_right (fun q => by omega)).2.1
          obtain ⟨l25, hl25⟩ : ∃ q, (showL p1 (tn K 1 (A.1 sp2))).length = q := ⟨_, rfl⟩
          have hq25 : l25 ≤ 256 := by rw [← hl25]; exact hr25.cap
          refine v_aload hX 0 rfl (atL dAX6_show_0 51 rfl) ?_
          refine v_aload_n hX 4 rfl (atL dAX6_show_0 52 rfl) ?_
          refine gf_X6_55 hX hk0 (atL dAX6_show_0 53 rfl) ?_
          refine v_callV hX (As := [.ref (w.1 1 25)]) (rest := []) (c_X4_take (xl X) w s9 sp4 hvsp4 (hA9 sp4) 25 (hH 1 25 (by simp [mn, tp])) (hA9 25) (by omega) (by rw [hr25.2, hl25]; rw [rcap_s (by omega)]; omega)) lk_X6_117 hvsp4 (fun _ => rfl) rfl rfl rfl (by rw [hR]; exact ⟨Nat.le_of_ble_eq_true rfl, Nat.le_of_ble_eq_true rfl⟩) (by rw [hR]; exact ⟨Nat.le_of_ble_eq_true rfl, Nat.le_of_ble_eq_true rfl⟩) rfl (Nat.le_of_ble_eq_true rfl) (atL dAX6_show_0 54 rfl) (fun _ s10 e10 => ?_)
          rw [hr25.2] at e10
          have hl10 : (showL p1 (tn K 1 (A.1 sp2))).length = l25 := by rw [hl25]
          obtain ⟨hr10, hf10⟩ := RW_of (M := showL p1 (tn K 1 (A.1 sp2))) (hA9 sp4) e10 (by rw [hl10]; rw [rcap_s (by omega)]; omega) (hr25.by)
          have hA10 := hA9.one hr10 hf10 (by simp)
          have hD10 := hD9.fr hf10 (by simp)
          have hr10_26 := hr9_26.fr hf10 (by simp <;> omega) (by simp <;> omega)
          have hr10_25 := hr25.fr hf10 (by simp <;> omega) (by simp <;> omega)
          have hc10_400 := hf10 4 0 (by simp <;> omega)
          have hc10_5kx0 := hf10 5 kx (by simp <;> omega)
          have hF10 := hF9.tr hf10 (by simp [Hk] <;> omega)
          show V X _ w _ _ s10 []
          refine v_aload hX 0 rfl (atL dAX6_show_0 55 rfl) ?_
          refine gf_X6_86 hX (v := ((l25 : Nat) : Int)) ((hr10.len.trans (by rw [hl10]))) hvsp4 (atL dAX6_show_0 56 rfl) ?_
          exact v_iret hX (atL dAX6_show_0 57 rfl) (hret _ _ ⟨A.put sp4 (showL p1 (tn K 1 (A.1 sp2))), by unfold f_show; simp only [htk, htsp2, htsp3, htsp4, hPe, hKe]; rw [if_neg (by omega), if_neg (by omega), if_neg (gc6.f h40), if_neg (fun q => q.elim (fun c => by omega) (fun c => c.elim (fun c => c hw26) (fun c => c hok25))), hl25], hS.put hF10 hA10 hD10 hr10, hF10.fm⟩ _ (Nat.le_of_ble_eq_true rfl) (Nat.le_of_ble_eq_true rfl))
        · refine v_bipush hX (by decide +kernel) (atL dAX6_show_0 49 rfl) ?_
          exact v_iret hX (atL dAX6_show_0 50 rfl) (hret _ _ ⟨A, by unfold f_show; simp only [htk, htsp2, htsp3, htsp4, hPe, hKe]; rw [if_neg (by omega), if_neg (by omega), if_neg (gc6.f h40), if_pos (Or.inr (Or.inr (gc9.resolve_left (fun q => by omega)).2))], hS.keepT hF9 hA9 hD9 hr9_sp4, hF9.fm⟩ _ (Nat.le_of_ble_eq_true rfl) (Nat.le_of_ble_eq_true rfl))
  · refine v_bipush hX (by decide +kernel) (atL dAX6_show_0 22 rfl) ?_
    exact v_iret hX (atL dAX6_show_0 23 rfl) (hret _ _ ⟨A, by unfold f_show; simp only [htk, htsp2, htsp3, htsp4, hPe, hKe]; rw [if_neg (by omega), if_neg (by omega), if_pos (gc6.t h40)], hS, FM.rf⟩ _ (Nat.le_of_ble_eq_true rfl) (Nat.le_of_ble_eq_true rfl))

set_option maxHeartbeats 1000000 in
set_option maxRecDepth 100000 in
theorem c_X6_empty (l : Launch) (hst : l.stackTraces = false) (w : Wl) (σ : St) (hk0 : w.2 0 0) (A : Ab) (hS : HS σ A) (p0 : Int) (hp0 : rI p0) (p1 : Int) (hp1 : rI p1) (p2 : Int) (hp2 : rI p2) : Cx l yX6_empty cX6_empty 7 (Option.some Jvm.ClassFile.FieldType.int) 7 138 3 18 wI [.ref (w.1 0 0), .int (iI (p0)), .int (iI (p1)), .int (iI (p2))] w σ (fun a σ' => ∃ A', f_empty A p0 p1 p2 = (0, a, A') ∧ HS σ' A' ∧ FM σ σ') (Xc (f_empty A p0 p1 p2) A) := by
  refine Cx.of (own := RX6) (lv := [(0, .ref (w.1 0 0)), (1, .int (iI (p0))), (2, .int (iI (p1))), (3, .int (iI (p2)))]) (by decide +kernel) rfl (Nat.le_of_ble_eq_true rfl) rfl (fun X hX hxl hR hcl hret hx => ?_)
  subst hxl
  have hH : ∀ c q, (c, q) ∈ mn σ 0 0 → w.2 c q := fun c q h => hcl 0 0 hk0 (c, q) h
  have hp0a := hp0.1
  have hp0b := hp0.2
  have hp1a := hp1.1
  have hp1b := hp1.2
  have hp2a := hp2.1
  have hp2b := hp2.2
  have hA := hS.2.1
  have hD := hS.2.2.1
  refine v_aload_n hX 0 rfl (atL dAX6_empty_0 0 rfl) ?_
  refine v_iload_n hX 1 rfl (atL dAX6_empty_0 1 rfl) ?_
  refine v_callVX hX (As := [.int (iI (p0))]) (rest := []) (c_X6_keyAt (xl X) hst w σ hk0 A hS p0 hp0) lk_X6_204 hk0 (fun _ => rfl) rfl rfl rfl (by rw [hR]; exact ⟨Nat.le_of_ble_eq_true rfl, Nat.le_of_ble_eq_true rfl⟩) (by rw [hR]; exact ⟨Nat.le_of_ble_eq_true rfl, Nat.le_of_ble_eq_true rfl⟩) rfl (Nat.le_of_ble_eq_true rfl) (atL dAX6_empty_0 2 rfl) (fun E hE => hx E (Or.inl ⟨hE.1, by unfold f_empty; exact if_pos (fun q => hE.2 (by omega))⟩) _ (Nat.le_of_ble_eq_true rfl) (Nat.le_of_ble_eq_true rfl)) (fun r1 z1 g1 => ?_)
  obtain ⟨kx, hkx, hkx2, ga1, gb1⟩ := g1
  rw [gb1]
  subst ga1
  obtain ⟨P, hPe⟩ : ∃ q, A.2.2.1 kx = q := ⟨_, rfl⟩
  obtain ⟨K, hKe⟩ : ∃ q, A.2.2.2 kx = q := ⟨_, rfl⟩
  have hK : KY σ kx P K := by rw [← hPe, ← hKe]; exact hS.2.2.2.2.2.2 kx hkx2
  have hk16 := hS.2.2.2.2.1
  have hkv : w.2 5 kx := hcl 12 0 (hH 12 0 (by simp [mn, tp])) (5, kx) (List.mem_map.mpr ⟨kx, List.mem_filter.mpr ⟨List.mem_range.mpr (by omega), decide_eq_true ((hS.2.2.2.2.2.1 kx (by omega)).trans (if_pos hkx2))⟩, rfl⟩)
  have htk : p0.toNat = kx := by omega
  have hk6 : w.2 6 kx := hcl 5 kx hkv (6, kx) (by simp [mn, tp])
  have hK6 := hK.2.1
  have hKP := hK.1
  have hkp : ∀ j, j < P → w.2 3 (32 + 8 * kx + j) := fun j hj => hcl 6 kx hk6 (3, 32 + 8 * kx + j) (by simp [mn]; omega)
  have hKl := hK.len
  have hK5 := hK.2.2.1
  have hKl2 : nby (K 0) ≤ 128 ∧ 1 ≤ nby (K 0) := hKl
  have hK0 := hK.2.2.2.2.1
  have hblK := blen_pos hK0
  have hblK2 := blen_le hK.2.2.2.2.2
  have hrBK : rB (blen (K 0) - 1) ≤ nby (K 0) := by unfold rB nby; omega
  show V X _ w _ _ σ [.ref (w.1 5 kx)]
  refine v_astore hX (lv' := [(4, .ref (w.1 5 kx)), (0, .ref (w.1 0 0)), (1, .int (iI (p0))), (2, .int (iI (p1))), (3, .int (iI (p2)))]) (Nat.le_of_ble_eq_true rfl) rfl (atL dAX6_empty_0 3 rfl) ?_
  refine v_aload_n hX 1 rfl (atL dAX6_empty_0 4 rfl) ?_
  refine v_iload_n hX 3 rfl (atL dAX6_empty_0 5 rfl) ?_
  refine v_callVX hX (As := [.int (iI (p1))]) (rest := []) (c_X6_slotAt (xl X) hst w σ hk0 p1 hp1) lk_X6_92 hk0 (fun _ => rfl) rfl rfl rfl (by rw [hR]; exact ⟨Nat.le_of_ble_eq_true rfl, Nat.le_of_ble_eq_true rfl⟩) (by rw [hR]; exact ⟨Nat.le_of_ble_eq_true rfl, Nat.le_of_ble_eq_true rfl⟩) rfl (Nat.le_of_ble_eq_true rfl) (atL dAX6_empty_0 6 rfl) (fun E hE => hx E (Or.inl ⟨hE.1, by unfold f_empty; exact if_pos (fun q => hE.2 (by omega))⟩) _ (Nat.le_of_ble_eq_true rfl) (Nat.le_of_ble_eq_true rfl)) (fun r2 z2 g2 => ?_)
  obtain ⟨sp1, hsp1, hsp12, ga2, gb2⟩ := g2
  rw [gb2]
  subst ga2
  have hrsp1 := hS.1 sp1 (by omega)
  obtain ⟨lsp1, hlsp1⟩ : ∃ q, (A.1 sp1).length = q := ⟨_, rfl⟩
  have hqsp1 : lsp1 ≤ 256 := by rw [← hlsp1]; exact hS.sl hsp12
  have hvsp1 : w.2 1 sp1 := hcl 11 0 (hH 11 0 (by simp [mn, tp])) (1, sp1) (by simp [mn]; omega)
  have htsp1 : p1.toNat = sp1 := by omega
  show V X _ w _ _ σ [.ref (w.1 1 sp1)]
  refine v_astore hX (lv' := [(5, .ref (w.1 1 sp1)), (4, .ref (w.1 5 kx)), (0, .ref (w.1 0 0)), (1, .int (iI (p0))), (2, .int (iI (p1))), (3, .int (iI (p2)))]) (Nat.le_of_ble_eq_true rfl) rfl (atL dAX6_empty_0 7 rfl) ?_
  refine v_aload_n hX 2 rfl (atL dAX6_empty_0 8 rfl) ?_
  refine v_iload_n hX 5 rfl (atL dAX6_empty_0 9 rfl) ?_
  refine v_callVX hX (As := [.int (iI (p2))]) (rest := []) (c_X6_slotAt (xl X) hst w σ hk0 p2 hp2) lk_X6_92 hk0 (fun _ => rfl) rfl rfl rfl (by rw [hR]; exact ⟨Nat.le_of_ble_eq_true rfl, Nat.le_of_ble_eq_true rfl⟩) (by rw [hR]; exact ⟨Nat.le_of_ble_eq_true rfl, Nat.le_of_ble_eq_true rfl⟩) rfl (Nat.le_of_ble_eq_true rfl) (atL dAX6_empty_0 10 rfl) (fun E hE => hx E (Or.inl ⟨hE.1, by unfold f_empty; exact if_pos (fun q => hE.2 (by omega))⟩) _ (Nat.le_of_ble_eq_true rfl) (Nat.le_of_ble_eq_true rfl)) (fun r3 z3 g3 => ?_)
  obtain ⟨sp2, hsp2, hsp22, ga3, gb3⟩ := g3
  rw [gb3]
  subst ga3
  have hrsp2 := hS.1 sp2 (by omega)
  obtain ⟨lsp2, hlsp2⟩ : ∃ q, (A.1 sp2).length = q := ⟨_, rfl⟩
  have hqsp2 : lsp2 ≤ 256 := by rw [← hlsp2]; exact hS.sl hsp22
  have hvsp2 : w.2 1 sp2 := hcl 11 0 (hH 11 0 (by simp [mn, tp])) (1, sp2) (by simp [mn]; omega)
  have htsp2 : p2.toNat = sp2 := by omega
  show V X _ w _ _ σ [.ref (w.1 1 sp2)]
  refine v_astore hX (lv' := [(6, .ref (w.1 1 sp2)), (5, .ref (w.1 1 sp1)), (4, .ref (w.1 5 kx)), (0, .ref (w.1 0 0)), (1, .int (iI (p0))), (2, .int (iI (p1))), (3, .int (iI (p2)))]) (Nat.le_of_ble_eq_true rfl) rfl (atL dAX6_empty_0 11 rfl) ?_
  refine v_aload hX 2 rfl (atL dAX6_empty_0 12 rfl) ?_
  refine v_callV hX (As := []) (rest := []) (c_X2_isOpen (xl X) w σ kx hkv P K hK) lk_X6_216 hkv (fun _ => rfl) rfl rfl rfl (by rw [hR]; exact ⟨Nat.le_of_ble_eq_true rfl, Nat.le_of_ble_eq_true rfl⟩) (by rw [hR]; exact ⟨Nat.le_of_ble_eq_true rfl, Nat.le_of_ble_eq_true rfl⟩) rfl (Nat.le_of_ble_eq_true rfl) (atL dAX6_empty_0 13 rfl) (fun r4 z4 g4 => ?_)
  obtain ⟨gc4, gb4⟩ := g4
  rw [gb4]
  have gd4 : r4 = 0 ∨ r4 = 1 := by rcases gc4 with q | q <;> omega
  show V X _ w _ _ σ [.int (iI (r4))]
  refine v_if_eq hX ⟨by omega, by omega⟩ (tgt := 32) (atL dAX6_empty_0 14 rfl) (by decide) (fun h26 => ?_) (fun h26 => ?_)
  · have hP8 : P = 8 := by have := gc4.f h26; omega
    refine v_aload hX 2 rfl (atL dAX6_empty_0 17 rfl) ?_
    refine gf_X6_223 hX (v := ((nby (K 0) : Nat) : Int)) (hK5) hkv (atL dAX6_empty_0 18 rfl) ?_
    refine v_bipush hX (by decide +kernel) (atL dAX6_empty_0 19 rfl) ?_
    refine v_icmp_lt hX ⟨by omega, by omega⟩ ⟨by omega, by omega⟩ (tgt := 72) (atL dAX6_empty_0 20 rfl) (by decide) (fun h39 => ?_) (fun h39 => ?_)
    · refine v_bipush hX (by decide +kernel) (atL dAX6_empty_0 35 rfl) ?_
      exact v_iret hX (atL dAX6_empty_0 36 rfl) (hret _ _ ⟨A, by unfold f_empty; simp only [htk, htsp1, htsp2, hPe, hKe]; rw [if_neg (by omega), if_neg (gc4.f h26), if_pos (Or.inl (by omega))], hS, FM.rf⟩ _ (Nat.le_of_ble_eq_true rfl) (Nat.le_of_ble_eq_true rfl))
    · refine v_aload_n hX 3 rfl (atL dAX6_empty_0 21 rfl) ?_
      refine v_aload hX 2 rfl (atL dAX6_empty_0 22 rfl) ?_
      refine v_iconst hX (atL dAX6_empty_0 23 rfl) ?_
      refine v_aload hX 1 rfl (atL dAX6_empty_0 24 rfl) ?_
      refine v_callV hX (As := [.ref (w.1 5 kx), .int (iI (1)), .ref (w.1 1 sp1)]) (rest := []) (c_X6_turnWholeRow (xl X) w σ hk0 hA hD kx hkv P K hK 1 (by omega) sp1 hvsp1 (by omega) (A.1 sp1) hrsp1 (by rw [hlsp1]; omega)) lk_X6_235 hk0 (fun _ => rfl) rfl rfl rfl (by rw [hR]; exact ⟨Nat.le_of_ble_eq_true rfl, Nat.le_of_ble_eq_true rfl⟩) (by rw [hR]; exact ⟨Nat.le_of_ble_eq_true rfl, Nat.le_of_ble_eq_true rfl⟩) rfl (Nat.le_of_ble_eq_true rfl) (atL dAX6_empty_0 25 rfl) (fun r5 s5 e5 => ?_)
      obtain ⟨gc5, gA5, gD5, gF5⟩ := e5
      have gd5 : r5 = 0 ∨ r5 = 1 := by rcases gc5 with q | q <;> omega
      have hr5_sp1 := hrsp1.frH gF5 (by omega) (by omega)
      have hr5_sp2 := hrsp2.frH gF5 (by omega) (by omega)
      have hc5_400 := gF5 4 0 (Or.inr (Or.inr (Or.inl ⟨by omega, by omega⟩))) (fun q => by omega)
      have hc5_5kx0 := gF5 5 kx (Or.inr (Or.inr (Or.inl ⟨by omega, by omega⟩))) (fun q => by omega)
      have hF5 := (FH.rf : FH sp2 σ σ).tr2 (gF5.mono (t := sp2) (by omega))
      show V X _ w _ _ s5 [.int (iI (r5))]
      refine v_if_eq hX ⟨by omega, by omega⟩ (tgt := 72) (atL dAX6_empty_0 26 rfl) (by decide) (fun h51 => ?_) (fun h51 => ?_)
      · refine v_bipush hX (by decide +kernel) (atL dAX6_empty_0 35 rfl) ?_
        exact v_iret hX (atL dAX6_empty_0 36 rfl) (hret _ _ ⟨A, by unfold f_empty; simp only [htk, htsp1, htsp2, hPe, hKe]; rw [if_neg (by omega), if_neg (gc4.f h26), if_pos (Or.inr (Or.inl (gc5.resolve_left (fun q => by omega)).2))], hS.keepT hF5 gA5 gD5 hr5_sp2, hF5.fm⟩ _ (Nat.le_of_ble_eq_true rfl) (Nat.le_of_ble_eq_true rfl))
      · have hr26 : RW s5 26 (tn K 1 (A.1 sp1)) := (gc5.resolve_right (fun q => by omega)).2.2.2
        have hw26 : wr_ K (A.1 sp1) := ⟨(gc5.resolve_right (fun q => by omega)).2.1, (gc5.resolve_right (fun q => by omega)).2.2.1⟩
        refine v_aload_n hX 3 rfl (atL dAX6_empty_0 27 rfl) ?_
        refine gf_X6_51 hX hk0 (atL dAX6_empty_0 28 rfl) ?_
        refine v_aload_n hX 3 rfl (atL dAX6_empty_0 29 rfl) ?_
        refine gf_X6_58 hX hk0 (atL dAX6_empty_0 30 rfl) ?_
        refine v_aload_n hX 3 rfl (atL dAX6_empty_0 31 rfl) ?_
        refine gf_X6_55 hX hk0 (atL dAX6_empty_0 32 rfl) ?_
        refine v_callV hX (As := [.ref (w.1 1 26), .ref (w.1 1 25)]) (rest := []) (c_X3_emptyFrom (xl X) w s5 (hH 10 0 (by simp [mn, tp])) (hH 1 25 (by simp [mn, tp])) (hH 1 26 (by simp [mn, tp])) gA5 (tn K 1 (A.1 sp1)) hr26 (by rw [tn_len]; omega)) lk_X6_249 (hH 10 0 (by simp [mn, tp])) (fun _ => rfl) rfl rfl rfl (by rw [hR]; exact ⟨Nat.le_of_ble_eq_true rfl, Nat.le_of_ble_eq_true rfl⟩) (by rw [hR]; exact ⟨Nat.le_of_ble_eq_true rfl, Nat.le_of_ble_eq_true rfl⟩) rfl (Nat.le_of_ble_eq_true rfl) (atL dAX6_empty_0 33 rfl) (fun r6 s6 e6 => ?_)
        obtain ⟨gc6, hB6, hf6⟩ := e6
        have gd6 : r6 = 0 ∨ r6 = 1 := by rcases gc6 with q | q <;> omega
        have hA6 := hB6
        have hD6 := gD5.fr hf6 (by simp [SP])
        have hr6_sp1 := hr5_sp1.fr hf6 (by simp [SP] <;> omega) (by simp [SP] <;> omega)
        have hr6_sp2 := hr5_sp2.fr hf6 (by simp [SP] <;> omega) (by simp [SP] <;> omega)
        have hr6_26 := hr26.fr hf6 (by simp [SP] <;> omega) (by simp [SP] <;> omega)
        have hc6_400 := hf6 4 0 (by simp [SP] <;> omega)
        have hc6_5kx0 := hf6 5 kx (by simp [SP] <;> omega)
        have hF6 := hF5.tr hf6 (by simp [Hk, SP] <;> omega)
        show V X _ w _ _ s6 [.int (iI (r6))]
        refine v_if_ne hX ⟨by omega, by omega⟩ (tgt := 75) (atL dAX6_empty_0 34 rfl) (by decide) (fun h69 => ?_) (fun h69 => ?_)
        · have hr25 := (gc6.resolve_right (fun q => by omega)).2.2
          have hok25 := (gc6.resolve_right (fun q => by omega)).2.1
          obtain ⟨l25, hl25⟩ : ∃ q, (emptyL (tn K 1 (A.1 sp1))).length = q := ⟨_, rfl⟩
          have hq25 : l25 ≤ 256 := by rw [← hl25]; exact hr25.cap
          refine v_aload hX 0 rfl (atL dAX6_empty_0 37 rfl) ?_
          refine v_aload_n hX 3 rfl (atL dAX6_empty_0 38 rfl) ?_
          refine gf_X6_55 hX hk0 (atL dAX6_empty_0 39 rfl) ?_
          refine v_callV hX (As := [.ref (w.1 1 25)]) (rest := []) (c_X4_take (xl X) w s6 sp2 hvsp2 (hA6 sp2) 25 (hH 1 25 (by simp [mn, tp])) (hA6 25) (by omega) (by rw [hr25.2, hl25]; rw [rcap_s (by omega)]; omega)) lk_X6_117 hvsp2 (fun _ => rfl) rfl rfl rfl (by rw [hR]; exact ⟨Nat.le_of_ble_eq_true rfl, Nat.le_of_ble_eq_true rfl⟩) (by rw [hR]; exact ⟨Nat.le_of_ble_eq_true rfl, Nat.le_of_ble_eq_true rfl⟩) rfl (Nat.le_of_ble_eq_true rfl) (atL dAX6_empty_0 40 rfl) (fun _ s7 e7 => ?_)
          rw [hr25.2] at e7
          have hl7 : (emptyL (tn K 1 (A.1 sp1))).length = l25 := by rw [hl25]
          obtain ⟨hr7, hf7⟩ := RW_of (M := emptyL (tn K 1 (A.1 sp1))) (hA6 sp2) e7 (by rw [hl7]; rw [rcap_s (by omega)]; omega) (hr25.by)
          have hA7 := hA6.one hr7 hf7 (by simp)
          have hD7 := hD6.fr hf7 (by simp)
          have hr7_26 := hr6_26.fr hf7 (by simp <;> omega) (by simp <;> omega)
          have hr7_25 := hr25.fr hf7 (by simp <;> omega) (by simp <;> omega)
          have hc7_400 := hf7 4 0 (by simp <;> omega)
          have hc7_5kx0 := hf7 5 kx (by simp <;> omega)
          have hF7 := hF6.tr hf7 (by simp [Hk] <;> omega)
          show V X _ w _ _ s7 []
          refine v_aload hX 0 rfl (atL dAX6_empty_0 41 rfl) ?_
          refine gf_X6_86 hX (v := ((l25 : Nat) : Int)) ((hr7.len.trans (by rw [hl7]))) hvsp2 (atL dAX6_empty_0 42 rfl) ?_
          exact v_iret hX (atL dAX6_empty_0 43 rfl) (hret _ _ ⟨A.put sp2 (emptyL (tn K 1 (A.1 sp1))), by unfold f_empty; simp only [htk, htsp1, htsp2, hPe, hKe]; rw [if_neg (by omega), if_neg (gc4.f h26), if_neg (fun q => q.elim (fun c => by omega) (fun c => c.elim (fun c => c hw26) (fun c => c hok25))), hl25], hS.put hF7 hA7 hD7 hr7, hF7.fm⟩ _ (Nat.le_of_ble_eq_true rfl) (Nat.le_of_ble_eq_true rfl))
        · refine v_bipush hX (by decide +kernel) (atL dAX6_empty_0 35 rfl) ?_
          exact v_iret hX (atL dAX6_empty_0 36 rfl) (hret _ _ ⟨A, by unfold f_empty; simp only [htk, htsp1, htsp2, hPe, hKe]; rw [if_neg (by omega), if_neg (gc4.f h26), if_pos (Or.inr (Or.inr (gc6.resolve_left (fun q => by omega)).2))], hS.keepT hF6 hA6 hD6 hr6_sp2, hF6.fm⟩ _ (Nat.le_of_ble_eq_true rfl) (Nat.le_of_ble_eq_true rfl))
  · refine v_bipush hX (by decide +kernel) (atL dAX6_empty_0 15 rfl) ?_
    exact v_iret hX (atL dAX6_empty_0 16 rfl) (hret _ _ ⟨A, by unfold f_empty; simp only [htk, htsp1, htsp2, hPe, hKe]; rw [if_neg (by omega), if_pos (gc4.t h26)], hS, FM.rf⟩ _ (Nat.le_of_ble_eq_true rfl) (Nat.le_of_ble_eq_true rfl))

set_option maxHeartbeats 1000000 in
set_option maxRecDepth 100000 in
theorem c_X6_fill (l : Launch) (hst : l.stackTraces = false) (w : Wl) (σ : St) (hk0 : w.2 0 0) (A : Ab) (hS : HS σ A) (p0 : Int) (hp0 : rI p0) (p1 : Int) (hp1 : rI p1) (p2 : Int) (hp2 : rI p2) (p3 : Int) (hp3 : rI p3) : Cx l yX6_fill cX6_fill 9 (Option.some Jvm.ClassFile.FieldType.int) 7 138 4 24 wI [.ref (w.1 0 0), .int (iI (p0)), .int (iI (p1)), .int (iI (p2)), .int (iI (p3))] w σ (fun a σ' => ∃ A', f_fill A p0 p1 p2 p3 = (0, a, A') ∧ HS σ' A' ∧ FM σ σ') (Xc (f_fill A p0 p1 p2 p3) A) := by
  refine Cx.of (own := RX6) (lv := [(0, .ref (w.1 0 0)), (1, .int (iI (p0))), (2, .int (iI (p1))), (3, .int (iI (p2))), (4, .int (iI (p3)))]) (by decide +kernel) rfl (Nat.le_of_ble_eq_true rfl) rfl (fun X hX hxl hR hcl hret hx => ?_)
  subst hxl
  have hH : ∀ c q, (c, q) ∈ mn σ 0 0 → w.2 c q := fun c q h => hcl 0 0 hk0 (c, q) h
  have hp0a := hp0.1
  have hp0b := hp0.2
  have hp1a := hp1.1
  have hp1b := hp1.2
  have hp2a := hp2.1
  have hp2b := hp2.2
  have hp3a := hp3.1
  have hp3b := hp3.2
  have hA := hS.2.1
  have hD := hS.2.2.1
  refine v_aload_n hX 0 rfl (atL dAX6_fill_0 0 rfl) ?_
  refine v_iload_n hX 1 rfl (atL dAX6_fill_0 1 rfl) ?_
  refine v_callVX hX (As := [.int (iI (p0))]) (rest := []) (c_X6_keyAt (xl X) hst w σ hk0 A hS p0 hp0) lk_X6_204 hk0 (fun _ => rfl) rfl rfl rfl (by rw [hR]; exact ⟨Nat.le_of_ble_eq_true rfl, Nat.le_of_ble_eq_true rfl⟩) (by rw [hR]; exact ⟨Nat.le_of_ble_eq_true rfl, Nat.le_of_ble_eq_true rfl⟩) rfl (Nat.le_of_ble_eq_true rfl) (atL dAX6_fill_0 2 rfl) (fun E hE => hx E (Or.inl ⟨hE.1, by unfold f_fill; exact if_pos (fun q => hE.2 (by omega))⟩) _ (Nat.le_of_ble_eq_true rfl) (Nat.le_of_ble_eq_true rfl)) (fun r1 z1 g1 => ?_)
  obtain ⟨kx, hkx, hkx2, ga1, gb1⟩ := g1
  rw [gb1]
  subst ga1
  obtain ⟨P, hPe⟩ : ∃ q, A.2.2.1 kx = q := ⟨_, rfl⟩
  obtain ⟨K, hKe⟩ : ∃ q, A.2.2.2 kx = q := ⟨_, rfl⟩
  have hK : KY σ kx P K := by rw [← hPe, ← hKe]; exact hS.2.2.2.2.2.2 kx hkx2
  have hk16 := hS.2.2.2.2.1
  have hkv : w.2 5 kx := hcl 12 0 (hH 12 0 (by simp [mn, tp])) (5, kx) (List.mem_map.mpr ⟨kx, List.mem_filter.mpr ⟨List.mem_range.mpr (by omega), decide_eq_true ((hS.2.2.2.2.2.1 kx (by omega)).trans (if_pos hkx2))⟩, rfl⟩)
  have htk : p0.toNat = kx := by omega
  have hk6 : w.2 6 kx := hcl 5 kx hkv (6, kx) (by simp [mn, tp])
  have hK6 := hK.2.1
  have hKP := hK.1
  have hkp : ∀ j, j < P → w.2 3 (32 + 8 * kx + j) := fun j hj => hcl 6 kx hk6 (3, 32 + 8 * kx + j) (by simp [mn]; omega)
  have hKl := hK.len
  have hK5 := hK.2.2.1
  have hKl2 : nby (K 0) ≤ 128 ∧ 1 ≤ nby (K 0) := hKl
  have hK0 := hK.2.2.2.2.1
  have hblK := blen_pos hK0
  have hblK2 := blen_le hK.2.2.2.2.2
  have hrBK : rB (blen (K 0) - 1) ≤ nby (K 0) := by unfold rB nby; omega
  show V X _ w _ _ σ [.ref (w.1 5 kx)]
  refine v_astore hX (lv' := [(5, .ref (w.1 5 kx)), (0, .ref (w.1 0 0)), (1, .int (iI (p0))), (2, .int (iI (p1))), (3, .int (iI (p2))), (4, .int (iI (p3)))]) (Nat.le_of_ble_eq_true rfl) rfl (atL dAX6_fill_0 3 rfl) ?_
  refine v_aload_n hX 1 rfl (atL dAX6_fill_0 4 rfl) ?_
  refine v_iload_n hX 3 rfl (atL dAX6_fill_0 5 rfl) ?_
  refine v_callVX hX (As := [.int (iI (p1))]) (rest := []) (c_X6_slotAt (xl X) hst w σ hk0 p1 hp1) lk_X6_92 hk0 (fun _ => rfl) rfl rfl rfl (by rw [hR]; exact ⟨Nat.le_of_ble_eq_true rfl, Nat.le_of_ble_eq_true rfl⟩) (by rw [hR]; exact ⟨Nat.le_of_ble_eq_true rfl, Nat.le_of_ble_eq_true rfl⟩) rfl (Nat.le_of_ble_eq_true rfl) (atL dAX6_fill_0 6 rfl) (fun E hE => hx E (Or.inl ⟨hE.1, by unfold f_fill; exact if_pos (fun q => hE.2 (by omega))⟩) _ (Nat.le_of_ble_eq_true rfl) (Nat.le_of_ble_eq_true rfl)) (fun r2 z2 g2 => ?_)
  obtain ⟨sp1, hsp1, hsp12, ga2, gb2⟩ := g2
  rw [gb2]
  subst ga2
  have hrsp1 := hS.1 sp1 (by omega)
  obtain ⟨lsp1, hlsp1⟩ : ∃ q, (A.1 sp1).length = q := ⟨_, rfl⟩
  have hqsp1 : lsp1 ≤ 256 := by rw [← hlsp1]; exact hS.sl hsp12
  have hvsp1 : w.2 1 sp1 := hcl 11 0 (hH 11 0 (by simp [mn, tp])) (1, sp1) (by simp [mn]; omega)
  have htsp1 : p1.toNat = sp1 := by omega
  show V X _ w _ _ σ [.ref (w.1 1 sp1)]
  refine v_astore hX (lv' := [(6, .ref (w.1 1 sp1)), (5, .ref (w.1 5 kx)), (0, .ref (w.1 0 0)), (1, .int (iI (p0))), (2, .int (iI (p1))), (3, .int (iI (p2))), (4, .int (iI (p3)))]) (Nat.le_of_ble_eq_true rfl) rfl (atL dAX6_fill_0 7 rfl) ?_
  refine v_aload_n hX 2 rfl (atL dAX6_fill_0 8 rfl) ?_
  refine v_iload_n hX 5 rfl (atL dAX6_fill_0 9 rfl) ?_
  refine v_callVX hX (As := [.int (iI (p2))]) (rest := []) (c_X6_slotAt (xl X) hst w σ hk0 p2 hp2) lk_X6_92 hk0 (fun _ => rfl) rfl rfl rfl (by rw [hR]; exact ⟨Nat.le_of_ble_eq_true rfl, Nat.le_of_ble_eq_true rfl⟩) (by rw [hR]; exact ⟨Nat.le_of_ble_eq_true rfl, Nat.le_of_ble_eq_true rfl⟩) rfl (Nat.le_of_ble_eq_true rfl) (atL dAX6_fill_0 10 rfl) (fun E hE => hx E (Or.inl ⟨hE.1, by unfold f_fill; exact if_pos (fun q => hE.2 (by omega))⟩) _ (Nat.le_of_ble_eq_true rfl) (Nat.le_of_ble_eq_true rfl)) (fun r3 z3 g3 => ?_)
  obtain ⟨sp2, hsp2, hsp22, ga3, gb3⟩ := g3
  rw [gb3]
  subst ga3
  have hrsp2 := hS.1 sp2 (by omega)
  obtain ⟨lsp2, hlsp2⟩ : ∃ q, (A.1 sp2).length = q := ⟨_, rfl⟩
  have hqsp2 : lsp2 ≤ 256 := by rw [← hlsp2]; exact hS.sl hsp22
  have hvsp2 : w.2 1 sp2 := hcl 11 0 (hH 11 0 (by simp [mn, tp])) (1, sp2) (by simp [mn]; omega)
  have htsp2 : p2.toNat = sp2 := by omega
  show V X _ w _ _ σ [.ref (w.1 1 sp2)]
  refine v_astore hX (lv' := [(7, .ref (w.1 1 sp2)), (6, .ref (w.1 1 sp1)), (5, .ref (w.1 5 kx)), (0, .ref (w.1 0 0)), (1, .int (iI (p0))), (2, .int (iI (p1))), (3, .int (iI (p2))), (4, .int (iI (p3)))]) (Nat.le_of_ble_eq_true rfl) rfl (atL dAX6_fill_0 11 rfl) ?_
  refine v_aload_n hX 3 rfl (atL dAX6_fill_0 12 rfl) ?_
  refine v_iload hX 7 rfl (atL dAX6_fill_0 13 rfl) ?_
  refine v_callVX hX (As := [.int (iI (p3))]) (rest := []) (c_X6_slotAt (xl X) hst w σ hk0 p3 hp3) lk_X6_92 hk0 (fun _ => rfl) rfl rfl rfl (by rw [hR]; exact ⟨Nat.le_of_ble_eq_true rfl, Nat.le_of_ble_eq_true rfl⟩) (by rw [hR]; exact ⟨Nat.le_of_ble_eq_true rfl, Nat.le_of_ble_eq_true rfl⟩) rfl (Nat.le_of_ble_eq_true rfl) (atL dAX6_fill_0 14 rfl) (fun E hE => hx E (Or.inl ⟨hE.1, by unfold f_fill; exact if_pos (fun q => hE.2 (by omega))⟩) _ (Nat.le_of_ble_eq_true rfl) (Nat.le_of_ble_eq_true rfl)) (fun r4 z4 g4 => ?_)
  obtain ⟨sp3, hsp3, hsp32, ga4, gb4⟩ := g4
  rw [gb4]
  subst ga4
  have hrsp3 := hS.1 sp3 (by omega)
  obtain ⟨lsp3, hlsp3⟩ : ∃ q, (A.1 sp3).length = q := ⟨_, rfl⟩
  have hqsp3 : lsp3 ≤ 256 := by rw [← hlsp3]; exact hS.sl hsp32
  have hvsp3 : w.2 1 sp3 := hcl 11 0 (hH 11 0 (by simp [mn, tp])) (1, sp3) (by simp [mn]; omega)
  have htsp3 : p3.toNat = sp3 := by omega
  show V X _ w _ _ σ [.ref (w.1 1 sp3)]
  refine v_astore hX (lv' := [(8, .ref (w.1 1 sp3)), (7, .ref (w.1 1 sp2)), (6, .ref (w.1 1 sp1)), (5, .ref (w.1 5 kx)), (0, .ref (w.1 0 0)), (1, .int (iI (p0))), (2, .int (iI (p1))), (3, .int (iI (p2))), (4, .int (iI (p3)))]) (Nat.le_of_ble_eq_true rfl) rfl (atL dAX6_fill_0 15 rfl) ?_
  refine v_aload hX 2 rfl (atL dAX6_fill_0 16 rfl) ?_
  refine gf_X6_86 hX (v := ((lsp1 : Nat) : Int)) ((hrsp1.len.trans (by rw [hlsp1]))) hvsp1 (atL dAX6_fill_0 17 rfl) ?_
  refine v_aload hX 3 rfl (atL dAX6_fill_0 18 rfl) ?_
  refine gf_X6_223 hX (v := ((nby (K 0) : Nat) : Int)) (hK5) hkv (atL dAX6_fill_0 19 rfl) ?_
  refine v_bipush hX (by decide +kernel) (atL dAX6_fill_0 20 rfl) ?_
  refine v_isub hX (iI_sub _ _) (atL dAX6_fill_0 21 rfl) ?_
  refine v_icmp_le hX ⟨by omega, by omega⟩ ⟨by omega, by omega⟩ (tgt := 48) (atL dAX6_fill_0 22 rfl) (by decide) (fun h42 => ?_) (fun h42 => ?_)
  · refine v_aload hX 1 rfl (atL dAX6_fill_0 25 rfl) ?_
    refine gf_X6_86 hX (v := ((lsp2 : Nat) : Int)) ((hrsp2.len.trans (by rw [hlsp2]))) hvsp2 (atL dAX6_fill_0 26 rfl) ?_
    refine v_aload hX 3 rfl (atL dAX6_fill_0 27 rfl) ?_
    refine gf_X6_223 hX (v := ((nby (K 0) : Nat) : Int)) (hK5) hkv (atL dAX6_fill_0 28 rfl) ?_
    refine v_iconst hX (atL dAX6_fill_0 29 rfl) ?_
    refine v_isub hX (iI_sub _ _) (atL dAX6_fill_0 30 rfl) ?_
    refine v_aload hX 2 rfl (atL dAX6_fill_0 31 rfl) ?_
    refine gf_X6_86 hX (v := ((lsp1 : Nat) : Int)) ((hrsp1.len.trans (by rw [hlsp1]))) hvsp1 (atL dAX6_fill_0 32 rfl) ?_
    refine v_isub hX (iI_sub _ _) (atL dAX6_fill_0 33 rfl) ?_
    refine v_icmp_ne hX ⟨by omega, by omega⟩ ⟨by omega, by omega⟩ (tgt := 83) (atL dAX6_fill_0 34 rfl) (by decide) (fun h66 => ?_) (fun h66 => ?_)
    · refine v_bipush hX (by decide +kernel) (atL dAX6_fill_0 41 rfl) ?_
      exact v_iret hX (atL dAX6_fill_0 42 rfl) (hret _ _ ⟨A, by unfold f_fill; simp only [htk, htsp1, htsp2, htsp3, hKe]; rw [if_neg (by omega), if_neg (by rw [hlsp1]; omega), if_pos (Or.inl (by rw [hlsp1, hlsp2]; omega))], hS, FM.rf⟩ _ (Nat.le_of_ble_eq_true rfl) (Nat.le_of_ble_eq_true rfl))
    · refine v_aload hX 1 rfl (atL dAX6_fill_0 35 rfl) ?_
      refine v_iconst hX (atL dAX6_fill_0 36 rfl) ?_
      refine v_callV hX (As := [.int (iI (0))]) (rest := []) (c_X4_othersFrom (xl X) w σ sp2 hvsp2 (hA sp2) 0 (by rw [hrsp2.2, hlsp2]; omega)) lk_X6_242 hvsp2 (fun _ => rfl) rfl rfl rfl (by rw [hR]; exact ⟨Nat.le_of_ble_eq_true rfl, Nat.le_of_ble_eq_true rfl⟩) (by rw [hR]; exact ⟨Nat.le_of_ble_eq_true rfl, Nat.le_of_ble_eq_true rfl⟩) rfl (Nat.le_of_ble_eq_true rfl) (atL dAX6_fill_0 37 rfl) (fun r5 z5 g5 => ?_)
      obtain ⟨ga5, gb5⟩ := g5
      rw [gb5]
      rw [hrsp2.2] at ga5
      subst ga5
      have hb5 := run_le (p := fun x => decide (x ≠ 0)) (L := A.1 sp2) (k := 0)
      rw [hlsp2] at hb5
      show V X _ w _ _ σ [.int (iI (((run (fun x => decide (x ≠ 0)) (A.1 sp2) 0 : Nat) : Int)))]
      refine v_aload hX 1 rfl (atL dAX6_fill_0 38 rfl) ?_
      refine gf_X6_86 hX (v := ((lsp2 : Nat) : Int)) ((hrsp2.len.trans (by rw [hlsp2]))) hvsp2 (atL dAX6_fill_0 39 rfl) ?_
      obtain ⟨nn, hnn⟩ : ∃ q, run (fun x => decide (x ≠ 0)) (A.1 sp2) 0 = q := ⟨_, rfl⟩
      have hbn : nn ≤ lsp2 - 0 := by rw [← hnn]; assumption
      rw [hnn]
      refine v_icmp_ge hX ⟨by omega, by omega⟩ ⟨by omega, by omega⟩ (tgt := 86) (atL dAX6_fill_0 40 rfl) (by decide) (fun h80 => ?_) (fun h80 => ?_)
      · refine v_aload_n hX 4 rfl (atL dAX6_fill_0 43 rfl) ?_
        refine gf_X6_51 hX hk0 (atL dAX6_fill_0 44 rfl) ?_
        refine v_aload_n hX 4 rfl (atL dAX6_fill_0 45 rfl) ?_
        refine gf_X6_55 hX hk0 (atL dAX6_fill_0 46 rfl) ?_
        refine v_aload hX 2 rfl (atL dAX6_fill_0 47 rfl) ?_
        refine v_aload hX 1 rfl (atL dAX6_fill_0 48 rfl) ?_
        refine v_callV hX (As := [.ref (w.1 1 25), .ref (w.1 1 sp1), .ref (w.1 1 sp2)]) (rest := []) (c_X3_fillIn (xl X) w σ (hH 10 0 (by simp [mn, tp])) (hH 1 25 (by simp [mn, tp])) hA sp1 hvsp1 (by omega) (A.1 sp1) hrsp1 sp2 hvsp2 (by omega) (A.1 sp2) hrsp2 (by rw [hlsp1, hlsp2]; omega)) lk_X6_245 (hH 10 0 (by simp [mn, tp])) (fun _ => rfl) rfl rfl rfl (by rw [hR]; exact ⟨Nat.le_of_ble_eq_true rfl, Nat.le_of_ble_eq_true rfl⟩) (by rw [hR]; exact ⟨Nat.le_of_ble_eq_true rfl, Nat.le_of_ble_eq_true rfl⟩) rfl (Nat.le_of_ble_eq_true rfl) (atL dAX6_fill_0 49 rfl) (fun _ s6 e6 => ?_)
        obtain ⟨hr6, hB6, hf6⟩ := e6
        have hl6 : (fillL (A.1 sp1) (A.1 sp2)).length = lsp1 + lsp2 + 3 := by unfold fillL; simp only [List.length_append, List.length_cons, List.length_nil]; omega
        have hA6 := hB6
        have hD6 := hD.fr hf6 (by simp [SP])
        have hr6_sp1 := hrsp1.fr hf6 (by simp [SP] <;> omega) (by simp [SP] <;> omega)
        have hr6_sp2 := hrsp2.fr hf6 (by simp [SP] <;> omega) (by simp [SP] <;> omega)
        have hr6_sp3 := hrsp3.fr hf6 (by simp [SP] <;> omega) (by simp [SP] <;> omega)
        have hc6_400 := hf6 4 0 (by simp [SP] <;> omega)
        have hc6_5kx0 := hf6 5 kx (by simp [SP] <;> omega)
        have hF6 := (FH.rf : FH sp3 σ σ).tr hf6 (by simp [Hk, SP] <;> omega)
        show V X _ w _ _ s6 []
        refine v_aload_n hX 4 rfl (atL dAX6_fill_0 50 rfl) ?_
        refine v_aload hX 3 rfl (atL dAX6_fill_0 51 rfl) ?_
        refine v_iconst hX (atL dAX6_fill_0 52 rfl) ?_
        refine v_aload hX 0 rfl (atL dAX6_fill_0 53 rfl) ?_
        refine v_callV hX (As := [.ref (w.1 5 kx), .int (iI (0)), .ref (w.1 1 sp3)]) (rest := []) (c_X6_putTurned (xl X) w s6 hk0 hA6 hD6 kx hkv P K (hK.frH hF6) 0 (by omega) sp3 hvsp3 (by omega) (fillL (A.1 sp1) (A.1 sp2)) hr6 (fillL_lt hK0 (by rw [hlsp1, hlsp2]; omega) hrsp1.by hrsp2.by)) lk_X6_231 hk0 (fun _ => rfl) rfl rfl rfl (by rw [hR]; exact ⟨Nat.le_of_ble_eq_true rfl, Nat.le_of_ble_eq_true rfl⟩) (by rw [hR]; exact ⟨Nat.le_of_ble_eq_true rfl, Nat.le_of_ble_eq_true rfl⟩) rfl (Nat.le_of_ble_eq_true rfl) (atL dAX6_fill_0 54 rfl) (fun r7 s7 e7 => ?_)
        obtain ⟨ga7, gR7, gA7, gD7, gF7⟩ := e7
        subst ga7
        have hF7 := hF6.tr2 gF7
        show V X _ w _ _ s7 [.int (iI (((nby (K 0) : Nat) : Int)))]
        exact v_iret hX (atL dAX6_fill_0 55 rfl) (hret _ _ ⟨A.put sp3 (tn K 0 (fillL (A.1 sp1) (A.1 sp2))), by unfold f_fill; simp only [htk, htsp1, htsp2, htsp3, hKe]; rw [if_neg (by omega), if_neg (by rw [hlsp1]; omega), if_neg (fun q => q.elim (fun c => c (by rw [hlsp1, hlsp2]; omega)) (fun c => by rw [hnn, hlsp2] at c; omega))], hS.put hF7 gA7 gD7 gR7, hF7.fm⟩ _ (Nat.le_of_ble_eq_true rfl) (Nat.le_of_ble_eq_true rfl))
      · refine v_bipush hX (by decide +kernel) (atL dAX6_fill_0 41 rfl) ?_
        exact v_iret hX (atL dAX6_fill_0 42 rfl) (hret _ _ ⟨A, by unfold f_fill; simp only [htk, htsp1, htsp2, htsp3, hKe]; rw [if_neg (by omega), if_neg (by rw [hlsp1]; omega), if_pos (Or.inr (by rw [hnn, hlsp2]; omega))], hS, FM.rf⟩ _ (Nat.le_of_ble_eq_true rfl) (Nat.le_of_ble_eq_true rfl))
  · refine v_bipush hX (by decide +kernel) (atL dAX6_fill_0 23 rfl) ?_
    exact v_iret hX (atL dAX6_fill_0 24 rfl) (hret _ _ ⟨A, by unfold f_fill; simp only [htk, htsp1, htsp2, htsp3, hKe]; rw [if_neg (by omega), if_pos (by rw [hlsp1]; omega)], hS, FM.rf⟩ _ (Nat.le_of_ble_eq_true rfl) (Nat.le_of_ble_eq_true rfl))
