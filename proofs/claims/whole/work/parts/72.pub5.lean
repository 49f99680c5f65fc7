set_option maxHeartbeats 1000000 in
set_option maxRecDepth 100000 in
theorem c_X6_sign (l : Launch) (hst : l.stackTraces = false) (w : Wl) (σ : St) (hk0 : w.2 0 0) (A : Ab) (hS : HS σ A) (p0 : Int) (hp0 : rI p0) (p1 : Int) (hp1 : rI p1) (p2 : Int) (hp2 : rI p2) (p3 : Int) (hp3 : rI p3) : Cx l yX6_sign cX6_sign 8 (Option.some Jvm.ClassFile.FieldType.int) 7 138 4 24 wI [.ref (w.1 0 0), .int (iI (p0)), .int (iI (p1)), .int (iI (p2)), .int (iI (p3))] w σ (fun a σ' => ∃ A', f_sign A p0 p1 p2 p3 = (0, a, A') ∧ HS σ' A' ∧ FM σ σ') (Xc (f_sign A p0 p1 p2 p3) A) := by
  refine Cx.of (own := RX6) (lv := [(0, .ref (w.1 0 0)), (1, .int (iI (p0))), (2, .int (iI (p1))), (3, .int (iI (p2))), (4, .int (iI (p3)))]) (by decide +kernel) rfl (Nat.le_of_ble_eq_true rfl) rfl (fun X hX hxl hR hcl hret hx => ?_)
  subst hxl
  have hH : ∀ c q, (c, q) ∈ mn σ 0 0 → w.2 c q := fun c q h => hcl 0 0 hk0 (c, q) h
  have hp0a := hp0.1
  have hp0b := hp0.2
  have hp1a := hp1.1
  have hp1b := hp1.2
  have hp2a := hp2.1
  have hp2b := hp2.2
  have hp3a := hp3.1
  have hp3b := hp3.2
  have hA := hS.2.1
  have hD := hS.2.2.1
  refine v_aload_n hX 0 rfl (atL dAX6_sign_0 0 rfl) ?_
  refine v_iload_n hX 1 rfl (atL dAX6_sign_0 1 rfl) ?_
  refine v_callVX hX (As := [.int (iI (p0))]) (rest := []) (c_X6_keyAt (xl X) hst w σ hk0 A hS p0 hp0) lk_X6_204 hk0 (fun _ => rfl) rfl rfl rfl (by rw [hR]; exact ⟨Nat.le_of_ble_eq_true rfl, Nat.le_of_ble_eq_true rfl⟩) (by rw [hR]; exact ⟨Nat.le_of_ble_eq_true rfl, Nat.le_of_ble_eq_true rfl⟩) rfl (Nat.le_of_ble_eq_true rfl) (atL dAX6_sign_0 2 rfl) (fun E hE => hx E (Or.inl ⟨hE.1, by unfold f_sign; exact if_pos (fun q => hE.2 (by omega))⟩) _ (Nat.le_of_ble_eq_true rfl) (Nat.le_of_ble_eq_true rfl)) (fun r1 z1 g1 => ?_)
  obtain ⟨kx, hkx, hkx2, ga1, gb1⟩ := g1
  rw [gb1]
  subst ga1
  obtain ⟨P, hPe⟩ : ∃ q, A.2.2.1 kx = q := ⟨_, rfl⟩
  obtain ⟨K, hKe⟩ : ∃ q, A.2.2.2 kx = q := ⟨_, rfl⟩
  have hK : KY σ kx P K := by rw [← hPe, ← hKe]; exact hS.2.2.2.2.2.2 kx hkx2
  have hk16 := hS.2.2.2.2.1
  have hkv : w.2 5 kx := hcl 12 0 (hH 12 0 (by simp [mn, tp])) (5, kx) (List.mem_map.mpr ⟨kx, List.mem_filter.mpr ⟨List.mem_range.mpr (by omega), decide_eq_true ((hS.2.2.2.2.2.1 kx (by omega)).trans (if_pos hkx2))⟩, rfl⟩)
  have htk : p0.toNat = kx := by omega
  have hk6 : w.2 6 kx := hcl 5 kx hkv (6, kx) (by simp [mn, tp])
  have hK6 := hK.2.1
  have hKP := hK.1
  have hkp : ∀ j, j < P → w.2 3 (32 + 8 * kx + j) := fun j hj => hcl 6 kx hk6 (3, 32 + 8 * kx + j) (by simp [mn]; omega)
  have hKl := hK.len
  have hK5 := hK.2.2.1
  have hKl2 : nby (K 0) ≤ 128 ∧ 1 ≤ nby (K 0) := hKl
  have hK0 := hK.2.2.2.2.1
  have hblK := blen_pos hK0
  have hblK2 := blen_le hK.2.2.2.2.2
  have hrBK : rB (blen (K 0) - 1) ≤ nby (K 0) := by unfold rB nby; omega
  show V X _ w _ _ σ [.ref (w.1 5 kx)]
  refine v_astore hX (lv' := [(5, .ref (w.1 5 kx)), (0, .ref (w.1 0 0)), (1, .int (iI (p0))), (2, .int (iI (p1))), (3, .int (iI (p2))), (4, .int (iI (p3)))]) (Nat.le_of_ble_eq_true rfl) rfl (atL dAX6_sign_0 3 rfl) ?_
  refine v_aload_n hX 1 rfl (atL dAX6_sign_0 4 rfl) ?_
  refine v_iload_n hX 4 rfl (atL dAX6_sign_0 5 rfl) ?_
  refine v_callVX hX (As := [.int (iI (p2))]) (rest := []) (c_X6_slotAt (xl X) hst w σ hk0 p2 hp2) lk_X6_92 hk0 (fun _ => rfl) rfl rfl rfl (by rw [hR]; exact ⟨Nat.le_of_ble_eq_true rfl, Nat.le_of_ble_eq_true rfl⟩) (by rw [hR]; exact ⟨Nat.le_of_ble_eq_true rfl, Nat.le_of_ble_eq_true rfl⟩) rfl (Nat.le_of_ble_eq_true rfl) (atL dAX6_sign_0 6 rfl) (fun E hE => hx E (Or.inl ⟨hE.1, by unfold f_sign; exact if_pos (fun q => hE.2 (by omega))⟩) _ (Nat.le_of_ble_eq_true rfl) (Nat.le_of_ble_eq_true rfl)) (fun r2 z2 g2 => ?_)
  obtain ⟨sp2, hsp2, hsp22, ga2, gb2⟩ := g2
  rw [gb2]
  subst ga2
  have hrsp2 := hS.1 sp2 (by omega)
  obtain ⟨lsp2, hlsp2⟩ : ∃ q, (A.1 sp2).length = q := ⟨_, rfl⟩
  have hqsp2 : lsp2 ≤ 256 := by rw [← hlsp2]; exact hS.sl hsp22
  have hvsp2 : w.2 1 sp2 := hcl 11 0 (hH 11 0 (by simp [mn, tp])) (1, sp2) (by simp [mn]; omega)
  have htsp2 : p2.toNat = sp2 := by omega
  show V X _ w _ _ σ [.ref (w.1 1 sp2)]
  refine v_astore hX (lv' := [(6, .ref (w.1 1 sp2)), (5, .ref (w.1 5 kx)), (0, .ref (w.1 0 0)), (1, .int (iI (p0))), (2, .int (iI (p1))), (3, .int (iI (p2))), (4, .int (iI (p3)))]) (Nat.le_of_ble_eq_true rfl) rfl (atL dAX6_sign_0 7 rfl) ?_
  refine v_aload_n hX 2 rfl (atL dAX6_sign_0 8 rfl) ?_
  refine v_iload hX 6 rfl (atL dAX6_sign_0 9 rfl) ?_
  refine v_callVX hX (As := [.int (iI (p3))]) (rest := []) (c_X6_slotAt (xl X) hst w σ hk0 p3 hp3) lk_X6_92 hk0 (fun _ => rfl) rfl rfl rfl (by rw [hR]; exact ⟨Nat.le_of_ble_eq_true rfl, Nat.le_of_ble_eq_true rfl⟩) (by rw [hR]; exact ⟨Nat.le_of_ble_eq_true rfl, Nat.le_of_ble_eq_true rfl⟩) rfl (Nat.le_of_ble_eq_true rfl) (atL dAX6_sign_0 10 rfl) (fun E hE => hx E (Or.inl ⟨hE.1, by unfold f_sign; exact if_pos (fun q => hE.2 (by omega))⟩) _ (Nat.le_of_ble_eq_true rfl) (Nat.le_of_ble_eq_true rfl)) (fun r3 z3 g3 => ?_)
  obtain ⟨sp3, hsp3, hsp32, ga3, gb3⟩ := g3
  rw [gb3]
  subst ga3
  have hrsp3 := hS.1 sp3 (by omega)
  obtain ⟨lsp3, hlsp3⟩ : ∃ q, (A.1 sp3).length = q := ⟨_, rfl⟩
  have hqsp3 : lsp3 ≤ 256 := by rw [← hlsp3]; exact hS.sl hsp32
  have hvsp3 : w.2 1 sp3 := hcl 11 0 (hH 11 0 (by simp [mn, tp])) (1, sp3) (by simp [mn]; omega)
  have htsp3 : p3.toNat = sp3 := by omega
  show V X _ w _ _ σ [.ref (w.1 1 sp3)]
  refine v_astore hX (lv' := [(7, .ref (w.1 1 sp3)), (6, .ref (w.1 1 sp2)), (5, .ref (w.1 5 kx)), (0, .ref (w.1 0 0)), (1, .int (iI (p0))), (2, .int (iI (p1))), (3, .int (iI (p2))), (4, .int (iI (p3)))]) (Nat.le_of_ble_eq_true rfl) rfl (atL dAX6_sign_0 11 rfl) ?_
  refine v_aload_n hX 3 rfl (atL dAX6_sign_0 12 rfl) ?_
  refine v_iload_n hX 5 rfl (atL dAX6_sign_0 13 rfl) ?_
  refine v_callVX hX (As := [.int (iI (p1))]) (rest := []) (c_X6_checkHash (xl X) hst w σ hk0 p1 hp1) lk_X6_163 hk0 (fun _ => rfl) rfl rfl rfl (by rw [hR]; exact ⟨Nat.le_of_ble_eq_true rfl, Nat.le_of_ble_eq_true rfl⟩) (by rw [hR]; exact ⟨Nat.le_of_ble_eq_true rfl, Nat.le_of_ble_eq_true rfl⟩) rfl (Nat.le_of_ble_eq_true rfl) (atL dAX6_sign_0 14 rfl) (fun E hE => hx E (Or.inr ⟨hE.1, by unfold f_sign; rw [if_neg (by omega)]; exact if_pos (by have := hE.2; omega)⟩) _ (Nat.le_of_ble_eq_true rfl) (Nat.le_of_ble_eq_true rfl)) (fun r4 z4 g4 => ?_)
  obtain ⟨hHs, gb4⟩ := g4
  rw [gb4]
  have hll := hl_le p1
  have hlg := hl_ge p1
  show V X _ w _ _ σ []
  refine v_aload hX 2 rfl (atL dAX6_sign_0 15 rfl) ?_
  refine v_callV hX (As := []) (rest := []) (c_X2_isOpen (xl X) w σ kx hkv P K hK) lk_X6_216 hkv (fun _ => rfl) rfl rfl rfl (by rw [hR]; exact ⟨Nat.le_of_ble_eq_true rfl, Nat.le_of_ble_eq_true rfl⟩) (by rw [hR]; exact ⟨Nat.le_of_ble_eq_true rfl, Nat.le_of_ble_eq_true rfl⟩) rfl (Nat.le_of_ble_eq_true rfl) (atL dAX6_sign_0 16 rfl) (fun r5 z5 g5 => ?_)
  obtain ⟨gc5, gb5⟩ := g5
  rw [gb5]
  have gd5 : r5 = 0 ∨ r5 = 1 := by rcases gc5 with q | q <;> omega
  show V X _ w _ _ σ [.int (iI (r5))]
  refine v_if_eq hX ⟨by omega, by omega⟩ (tgt := 38) (atL dAX6_sign_0 17 rfl) (by decide) (fun h32 => ?_) (fun h32 => ?_)
  · have hP8 : P = 8 := by have := gc5.f h32; omega
    refine v_aload hX 2 rfl (atL dAX6_sign_0 20 rfl) ?_
    refine gf_X6_223 hX (v := ((nby (K 0) : Nat) : Int)) (hK5) hkv (atL dAX6_sign_0 21 rfl) ?_
    refine v_iload_n hX 5 rfl (atL dAX6_sign_0 22 rfl) ?_
    refine v_callS hX (As := [.int (iI (p1))]) (rest := [.int (iI (((nby (K 0) : Nat) : Int)))]) (c_X3_leastSigned (xl X) w σ p1 hp1) lk_X6_253 rfl (by rw [hR]; exact ⟨Nat.le_of_ble_eq_true rfl, Nat.le_of_ble_eq_true rfl⟩) (by rw [hR]; exact ⟨Nat.le_of_ble_eq_true rfl, Nat.le_of_ble_eq_true rfl⟩) rfl (Nat.le_of_ble_eq_true rfl) (atL dAX6_sign_0 23 rfl) (fun r6 z6 g6 => ?_)
    obtain ⟨ga6, gb6⟩ := g6
    rw [gb6]
    subst ga6
    show V X _ w _ _ σ [.int (iI (((19 + hl p1 + 11 : Nat) : Int))), .int (iI (((nby (K 0) : Nat) : Int)))]
    refine v_icmp_ge hX ⟨by omega, by omega⟩ ⟨by omega, by omega⟩ (tgt := 53) (atL dAX6_sign_0 24 rfl) (by decide) (fun h47 => ?_) (fun h47 => ?_)
    · refine v_aload_n hX 3 rfl (atL dAX6_sign_0 27 rfl) ?_
      refine gf_X6_51 hX hk0 (atL dAX6_sign_0 28 rfl) ?_
      refine v_aload_n hX 3 rfl (atL dAX6_sign_0 29 rfl) ?_
      refine gf_X6_55 hX hk0 (atL dAX6_sign_0 30 rfl) ?_
      refine v_aload hX 2 rfl (atL dAX6_sign_0 31 rfl) ?_
      refine gf_X6_223 hX (v := ((nby (K 0) : Nat) : Int)) (hK5) hkv (atL dAX6_sign_0 32 rfl) ?_
      refine v_iload_n hX 5 rfl (atL dAX6_sign_0 33 rfl) ?_
      refine v_aload hX 1 rfl (atL dAX6_sign_0 34 rfl) ?_
      refine v_callV hX (As := [.ref (w.1 1 25), .int (iI (((nby (K 0) : Nat) : Int))), .int (iI (p1)), .ref (w.1 1 sp2)]) (rest := []) (c_X3_signIn (xl X) w σ (hH 10 0 (by simp [mn, tp])) (hH 1 25 (by simp [mn, tp])) hA (nby (K 0)) (by omega) p1 hp1 sp2 hvsp2 (by omega) (A.1 sp2) hrsp2 (by omega)) lk_X6_256 (hH 10 0 (by simp [mn, tp])) (fun _ => rfl) rfl rfl rfl (by rw [hR]; exact ⟨Nat.le_of_ble_eq_true rfl, Nat.le_of_ble_eq_true rfl⟩) (by rw [hR]; exact ⟨Nat.le_of_ble_eq_true rfl, Nat.le_of_ble_eq_true rfl⟩) rfl (Nat.le_of_ble_eq_true rfl) (atL dAX6_sign_0 35 rfl) (fun _ s7 e7 => ?_)
      obtain ⟨hr7, hB7, hf7⟩ := e7
      have hl7 : (signL p1 (nby (K 0)) (A.1 sp2)).length = nby (K 0) := by exact signL_len (by omega)
      have hA7 := hB7
      have hD7 := hD.fr hf7 (by simp [SP])
      have hr7_sp2 := hrsp2.fr hf7 (by simp [SP] <;> omega) (by simp [SP] <;> omega)
      have hr7_sp3 := hrsp3.fr hf7 (by simp [SP] <;> omega) (by simp [SP] <;> omega)
      have hc7_400 := hf7 4 0 (by simp [SP] <;> omega)
      have hc7_5kx0 := hf7 5 kx (by simp [SP] <;> omega)
      have hF7 := (FH.rf : FH sp3 σ σ).tr hf7 (by simp [Hk, SP] <;> omega)
      show V X _ w _ _ s7 []
      refine v_aload_n hX 3 rfl (atL dAX6_sign_0 36 rfl) ?_
      refine v_aload hX 2 rfl (atL dAX6_sign_0 37 rfl) ?_
      refine v_iconst hX (atL dAX6_sign_0 38 rfl) ?_
      refine v_aload hX 0 rfl (atL dAX6_sign_0 39 rfl) ?_
      refine v_callV hX (As := [.ref (w.1 5 kx), .int (iI (1)), .ref (w.1 1 sp3)]) (rest := []) (c_X6_putTurned (xl X) w s7 hk0 hA7 hD7 kx hkv P K (hK.frH hF7) 1 (by omega) sp3 hvsp3 (by omega) (signL p1 (nby (K 0)) (A.1 sp2)) hr7 (signL_lt (by omega) hK0 rfl)) lk_X6_231 hk0 (fun _ => rfl) rfl rfl rfl (by rw [hR]; exact ⟨Nat.le_of_ble_eq_true rfl, Nat.le_of_ble_eq_true rfl⟩) (by rw [hR]; exact ⟨Nat.le_of_ble_eq_true rfl, Nat.le_of_ble_eq_true rfl⟩) rfl (Nat.le_of_ble_eq_true rfl) (atL dAX6_sign_0 40 rfl) (fun r8 s8 e8 => ?_)
      obtain ⟨ga8, gR8, gA8, gD8, gF8⟩ := e8
      subst ga8
      have hF8 := hF7.tr2 gF8
      show V X _ w _ _ s8 [.int (iI (((nby (K 0) : Nat) : Int)))]
      exact v_iret hX (atL dAX6_sign_0 41 rfl) (hret _ _ ⟨A.put sp3 (tn K 1 (signL p1 (nby (K 0)) (A.1 sp2))), by unfold f_sign; simp only [htk, htsp2, htsp3, hPe, hKe]; rw [if_neg (by omega), if_neg (by omega), if_neg (gc5.f h32), if_neg (by omega)], hS.put hF8 gA8 gD8 gR8, hF8.fm⟩ _ (Nat.le_of_ble_eq_true rfl) (Nat.le_of_ble_eq_true rfl))
    · refine v_bipush hX (by decide +kernel) (atL dAX6_sign_0 25 rfl) ?_
      exact v_iret hX (atL dAX6_sign_0 26 rfl) (hret _ _ ⟨A, by unfold f_sign; simp only [htk, htsp2, htsp3, hPe, hKe]; rw [if_neg (by omega), if_neg (by omega), if_neg (gc5.f h32), if_pos (by omega)], hS, FM.rf⟩ _ (Nat.le_of_ble_eq_true rfl) (Nat.le_of_ble_eq_true rfl))
  · refine v_bipush hX (by decide +kernel) (atL dAX6_sign_0 18 rfl) ?_
    exact v_iret hX (atL dAX6_sign_0 19 rfl) (hret _ _ ⟨A, by unfold f_sign; simp only [htk, htsp2, htsp3, hPe, hKe]; rw [if_neg (by omega), if_neg (by omega), if_pos (gc5.t h32)], hS, FM.rf⟩ _ (Nat.le_of_ble_eq_true rfl) (Nat.le_of_ble_eq_true rfl))

set_option maxHeartbeats 1000000 in
set_option maxRecDepth 100000 in
theorem c_X6_prove (l : Launch) (hst : l.stackTraces = false) (w : Wl) (σ : St) (hk0 : w.2 0 0) (A : Ab) (hS : HS σ A) (p0 : Int) (hp0 : rI p0) (p1 : Int) (hp1 : rI p1) (p2 : Int) (hp2 : rI p2) (p3 : Int) (hp3 : rI p3) : Cx l yX6_prove cX6_prove 8 (Option.some Jvm.ClassFile.FieldType.int) 7 138 4 24 wI [.ref (w.1 0 0), .int (iI (p0)), .int (iI (p1)), .int (iI (p2)), .int (iI (p3))] w σ (fun a σ' => ∃ A', f_prove A p0 p1 p2 p3 = (0, a, A') ∧ HS σ' A' ∧ FM σ σ') (Xc (f_prove A p0 p1 p2 p3) A) := by
  refine Cx.of (own := RX6) (lv := [(0, .ref (w.1 0 0)), (1, .int (iI (p0))), (2, .int (iI (p1))), (3, .int (iI (p2))), (4, .int (iI (p3)))]) (by decide +kernel) rfl (Nat.le_of_ble_eq_true rfl) rfl (fun X hX hxl hR hcl hret hx => ?_)
  subst hxl
  have hH : ∀ c q, (c, q) ∈ mn σ 0 0 → w.2 c q := fun c q h => hcl 0 0 hk0 (c, q) h
  have hp0a := hp0.1
  have hp0b := hp0.2
  have hp1a := hp1.1
  have hp1b := hp1.2
  have hp2a := hp2.1
  have hp2b := hp2.2
  have hp3a := hp3.1
  have hp3b := hp3.2
  have hA := hS.2.1
  have hD := hS.2.2.1
  refine v_aload_n hX 0 rfl (atL dAX6_prove_0 0 rfl) ?_
  refine v_iload_n hX 1 rfl (atL dAX6_prove_0 1 rfl) ?_
  refine v_callVX hX (As := [.int (iI (p0))]) (rest := []) (c_X6_keyAt (xl X) hst w σ hk0 A hS p0 hp0) lk_X6_204 hk0 (fun _ => rfl) rfl rfl rfl (by rw [hR]; exact ⟨Nat.le_of_ble_eq_true rfl, Nat.le_of_ble_eq_true rfl⟩) (by rw [hR]; exact ⟨Nat.le_of_ble_eq_true rfl, Nat.le_of_ble_eq_true rfl⟩) rfl (Nat.le_of_ble_eq_true rfl) (atL dAX6_prove_0 2 rfl) (fun E hE => hx E (Or.inl ⟨hE.1, by unfold f_prove; exact if_pos (fun q => hE.2 (by omega))⟩) _ (Nat.le_of_ble_eq_true rfl) (Nat.le_of_ble_eq_true rfl)) (fun r1 z1 g1 => ?_)
  obtain ⟨kx, hkx, hkx2, ga1, gb1⟩ := g1
  rw [gb1]
  subst ga1
  obtain ⟨P, hPe⟩ : ∃ q, A.2.2.1 kx = q := ⟨_, rfl⟩
  obtain ⟨K, hKe⟩ : ∃ q, A.2.2.2 kx = q := ⟨_, rfl⟩
  have hK : KY σ kx P K := by rw [← hPe, ← hKe]; exact hS.2.2.2.2.2.2 kx hkx2
  have hk16 := hS.2.2.2.2.1
  have hkv : w.2 5 kx := hcl 12 0 (hH 12 0 (by simp [mn, tp])) (5, kx) (List.mem_map.mpr ⟨kx, List.mem_filter.mpr ⟨List.mem_range.mpr (by omega), decide_eq_true ((hS.2.2.2.2.2.1 kx (by omega)).trans (if_pos hkx2))⟩, rfl⟩)
  have htk : p0.toNat = kx := by omega
  have hk6 : w.2 6 kx := hcl 5 kx hkv (6, kx) (by simp [mn, tp])
  have hK6 := hK.2.1
  have hKP := hK.1
  have hkp : ∀ j, j < P → w.2 3 (32 + 8 * kx + j) := fun j hj => hcl 6 kx hk6 (3, 32 + 8 * kx + j) (by simp [mn]; omega)
  have hKl := hK.len
  have hK5 := hK.2.2.1
  have hKl2 : nby (K 0) ≤ 128 ∧ 1 ≤ nby (K 0) := hKl
  have hK0 := hK.2.2.2.2.1
  have hblK := blen_pos hK0
  have hblK2 := blen_le hK.2.2.2.2.2
  have hrBK : rB (blen (K 0) - 1) ≤ nby (K 0) := by unfold rB nby; omega
  show V X _ w _ _ σ [.ref (w.1 5 kx)]
  refine v_astore hX (lv' := [(5, .ref (w.1 5 kx)), (0, .ref (w.1 0 0)), (1, .int (iI (p0))), (2, .int (iI (p1))), (3, .int (iI (p2))), (4, .int (iI (p3)))]) (Nat.le_of_ble_eq_true rfl) rfl (atL dAX6_prove_0 3 rfl) ?_
  refine v_aload_n hX 1 rfl (atL dAX6_prove_0 4 rfl) ?_
  refine v_iload_n hX 4 rfl (atL dAX6_prove_0 5 rfl) ?_
  refine v_callVX hX (As := [.int (iI (p2))]) (rest := []) (c_X6_slotAt (xl X) hst w σ hk0 p2 hp2) lk_X6_92 hk0 (fun _ => rfl) rfl rfl rfl (by rw [hR]; exact ⟨Nat.le_of_ble_eq_true rfl, Nat.le_of_ble_eq_true rfl⟩) (by rw [hR]; exact ⟨Nat.le_of_ble_eq_true rfl, Nat.le_of_ble_eq_true rfl⟩) rfl (Nat.le_of_ble_eq_true rfl) (atL dAX6_prove_0 6 rfl) (fun E hE => hx E (Or.inl ⟨hE.1, by unfold f_prove; exact if_pos (fun q => hE.2 (by omega))⟩) _ (Nat.le_of_ble_eq_true rfl) (Nat.le_of_ble_eq_true rfl)) (fun r2 z2 g2 => ?_)
  obtain ⟨sp2, hsp2, hsp22, ga2, gb2⟩ := g2
  rw [gb2]
  subst ga2
  have hrsp2 := hS.1 sp2 (by omega)
  obtain ⟨lsp2, hlsp2⟩ : ∃ q, (A.1 sp2).length = q := ⟨_, rfl⟩
  have hqsp2 : lsp2 ≤ 256 := by rw [← hlsp2]; exact hS.sl hsp22
  have hvsp2 : w.2 1 sp2 := hcl 11 0 (hH 11 0 (by simp [mn, tp])) (1, sp2) (by simp [mn]; omega)
  have htsp2 : p2.toNat = sp2 := by omega
  show V X _ w _ _ σ [.ref (w.1 1 sp2)]
  refine v_astore hX (lv' := [(6, .ref (w.1 1 sp2)), (5, .ref (w.1 5 kx)), (0, .ref (w.1 0 0)), (1, .int (iI (p0))), (2, .int (iI (p1))), (3, .int (iI (p2))), (4, .int (iI (p3)))]) (Nat.le_of_ble_eq_true rfl) rfl (atL dAX6_prove_0 7 rfl) ?_
  refine v_aload_n hX 2 rfl (atL dAX6_prove_0 8 rfl) ?_
  refine v_iload hX 6 rfl (atL dAX6_prove_0 9 rfl) ?_
  refine v_callVX hX (As := [.int (iI (p3))]) (rest := []) (c_X6_slotAt (xl X) hst w σ hk0 p3 hp3) lk_X6_92 hk0 (fun _ => rfl) rfl rfl rfl (by rw [hR]; exact ⟨Nat.le_of_ble_eq_true rfl, Nat.le_of_ble_eq_true rfl⟩) (by rw [hR]; exact ⟨Nat.le_of_ble_eq_true rfl, Nat.le_of_ble_eq_true rfl⟩) rfl (Nat.le_of_ble_eq_true rfl) (atL dAX6_prove_0 10 rfl) (fun E hE => hx E (Or.inl ⟨hE.1, by unfold f_prove; exact if_pos (fun q => hE.2 (by omega))⟩) _ (Nat.le_of_ble_eq_true rfl) (Nat.le_of_ble_eq_true rfl)) (fun r3 z3 g3 => ?_)
  obtain ⟨sp3, hsp3, hsp32, ga3, gb3⟩ := g3
  rw [gb3]
  subst ga3
  have hrsp3 := hS.1 sp3 (by omega)
  obtain ⟨lsp3, hlsp3⟩ : ∃ q, (A.1 sp3).length = q := ⟨_, rfl⟩
  have hqsp3 : lsp3 ≤ 256 := by rw [← hlsp3]; exact hS.sl hsp32
  have hvsp3 : w.2 1 sp3 := hcl 11 0 (hH 11 0 (by simp [mn, tp])) (1, sp3) (by simp [mn]; omega)
  have htsp3 : p3.toNat = sp3 := by omega
  show V X _ w _ _ σ [.ref (w.1 1 sp3)]
  refine v_astore hX (lv' := [(7, .ref (w.1 1 sp3)), (6, .ref (w.1 1 sp2)), (5, .ref (w.1 5 kx)), (0, .ref (w.1 0 0)), (1, .int (iI (p0))), (2, .int (iI (p1))), (3, .int (iI (p2))), (4, .int (iI (p3)))]) (Nat.le_of_ble_eq_true rfl) rfl (atL dAX6_prove_0 11 rfl) ?_
  refine v_aload_n hX 3 rfl (atL dAX6_prove_0 12 rfl) ?_
  refine v_iload_n hX 5 rfl (atL dAX6_prove_0 13 rfl) ?_
  refine v_callVX hX (As := [.int (iI (p1))]) (rest := []) (c_X6_checkHash (xl X) hst w σ hk0 p1 hp1) lk_X6_163 hk0 (fun _ => rfl) rfl rfl rfl (by rw [hR]; exact ⟨Nat.le_of_ble_eq_true rfl, Nat.le_of_ble_eq_true rfl⟩) (by rw [hR]; exact ⟨Nat.le_of_ble_eq_true rfl, Nat.le_of_ble_eq_true rfl⟩) rfl (Nat.le_of_ble_eq_true rfl) (atL dAX6_prove_0 14 rfl) (fun E hE => hx E (Or.inr ⟨hE.1, by unfold f_prove; rw [if_neg (by omega)]; exact if_pos (by have := hE.2; omega)⟩) _ (Nat.le_of_ble_eq_true rfl) (Nat.le_of_ble_eq_true rfl)) (fun r4 z4 g4 => ?_)
  obtain ⟨hHs, gb4⟩ := g4
  rw [gb4]
  have hll := hl_le p1
  have hlg := hl_ge p1
  show V X _ w _ _ σ []
  refine v_aload hX 2 rfl (atL dAX6_prove_0 15 rfl) ?_
  refine gf_X6_223 hX (v := ((nby (K 0) : Nat) : Int)) (hK5) hkv (atL dAX6_prove_0 16 rfl) ?_
  refine v_iload_n hX 5 rfl (atL dAX6_prove_0 17 rfl) ?_
  refine v_callS hX (As := [.int (iI (p1))]) (rest := [.int (iI (((nby (K 0) : Nat) : Int)))]) (c_X3_leastSigned (xl X) w σ p1 hp1) lk_X6_253 rfl (by rw [hR]; exact ⟨Nat.le_of_ble_eq_true rfl, Nat.le_of_ble_eq_true rfl⟩) (by rw [hR]; exact ⟨Nat.le_of_ble_eq_true rfl, Nat.le_of_ble_eq_true rfl⟩) rfl (Nat.le_of_ble_eq_true rfl) (atL dAX6_prove_0 18 rfl) (fun r5 z5 g5 => ?_)
  obtain ⟨ga5, gb5⟩ := g5
  rw [gb5]
  subst ga5
  show V X _ w _ _ σ [.int (iI (((19 + hl p1 + 11 : Nat) : Int))), .int (iI (((nby (K 0) : Nat) : Int)))]
  refine v_icmp_ge hX ⟨by omega, by omega⟩ ⟨by omega, by omega⟩ (tgt := 42) (atL dAX6_prove_0 19 rfl) (by decide) (fun h36 => ?_) (fun h36 => ?_)
  · refine v_aload_n hX 3 rfl (atL dAX6_prove_0 22 rfl) ?_
    refine v_aload hX 2 rfl (atL dAX6_prove_0 23 rfl) ?_
    refine v_iconst hX (atL dAX6_prove_0 24 rfl) ?_
    refine v_aload hX 0 rfl (atL dAX6_prove_0 25 rfl) ?_
    refine v_callV hX (As := [.ref (w.1 5 kx), .int (iI (0)), .ref (w.1 1 sp3)]) (rest := []) (c_X6_turnWholeRow (xl X) w σ hk0 hA hD kx hkv P K hK 0 (by omega) sp3 hvsp3 (by omega) (A.1 sp3) hrsp3 (by rw [hlsp3]; omega)) lk_X6_235 hk0 (fun _ => rfl) rfl rfl rfl (by rw [hR]; exact ⟨Nat.le_of_ble_eq_true rfl, Nat.le_of_ble_eq_true rfl⟩) (by rw [hR]; exact ⟨Nat.le_of_ble_eq_true rfl, Nat.le_of_ble_eq_true rfl⟩) rfl (Nat.le_of_ble_eq_true rfl) (atL dAX6_prove_0 26 rfl) (fun r6 s6 e6 => ?_)
    obtain ⟨gc6, gA6, gD6, gF6⟩ := e6
    have gd6 : r6 = 0 ∨ r6 = 1 := by rcases gc6 with q | q <;> omega
    have hr6_sp2 := hrsp2.frH gF6 (by omega) (by omega)
    have hr6_sp3 := hrsp3.frH gF6 (by omega) (by omega)
    have hc6_400 := gF6 4 0 (Or.inr (Or.inr (Or.inl ⟨by omega, by omega⟩))) (fun q => by omega)
    have hc6_5kx0 := gF6 5 kx (Or.inr (Or.inr (Or.inl ⟨by omega, by omega⟩))) (fun q => by omega)
    have hF6 := (FH.rf : FH 99 σ σ).tr2 (gF6.mono (t := 99) (by omega))
    show V X _ w _ _ s6 [.int (iI (r6))]
    refine v_if_ne hX ⟨by omega, by omega⟩ (tgt := 56) (atL dAX6_prove_0 27 rfl) (by decide) (fun h51 => ?_) (fun h51 => ?_)
    · have hr26 : RW s6 26 (tn K 0 (A.1 sp3)) := (gc6.resolve_right (fun q => by omega)).2.2.2
      have hw26 : wr_ K (A.1 sp3) := ⟨(gc6.resolve_right (fun q => by omega)).2.1, (gc6.resolve_right (fun q => by omega)).2.2.1⟩
      refine v_aload_n hX 3 rfl (atL dAX6_prove_0 30 rfl) ?_
      refine gf_X6_51 hX hk0 (atL dAX6_prove_0 31 rfl) ?_
      refine v_aload_n hX 3 rfl (atL dAX6_prove_0 32 rfl) ?_
      refine gf_X6_55 hX hk0 (atL dAX6_prove_0 33 rfl) ?_
      refine v_aload hX 2 rfl (atL dAX6_prove_0 34 rfl) ?_
      refine gf_X6_223 hX (v := ((nby (K 0) : Nat) : Int)) (((congrFun hc6_5kx0 0).trans hK5)) hkv (atL dAX6_prove_0 35 rfl) ?_
      refine v_iload_n hX 5 rfl (atL dAX6_prove_0 36 rfl) ?_
      refine v_aload hX 1 rfl (atL dAX6_prove_0 37 rfl) ?_
      refine v_callV hX (As := [.ref (w.1 1 25), .int (iI (((nby (K 0) : Nat) : Int))), .int (iI (p1)), .ref (w.1 1 sp2)]) (rest := []) (c_X3_signIn (xl X) w s6 (hH 10 0 (by simp [mn, tp])) (hH 1 25 (by simp [mn, tp])) gA6 (nby (K 0)) (by omega) p1 hp1 sp2 hvsp2 (by omega) (A.1 sp2) hr6_sp2 (by omega)) lk_X6_256 (hH 10 0 (by simp [mn, tp])) (fun _ => rfl) rfl rfl rfl (by rw [hR]; exact ⟨Nat.le_of_ble_eq_true rfl, Nat.le_of_ble_eq_true rfl⟩) (by rw [hR]; exact ⟨Nat.le_of_ble_eq_true rfl, Nat.le_of_ble_eq_true rfl⟩) rfl (Nat.le_of_ble_eq_true rfl) (atL dAX6_prove_0 38 rfl) (fun _ s7 e7 => ?_)
      obtain ⟨hr7, hB7, hf7⟩ := e7
      have hl7 : (signL p1 (nby (K 0)) (A.1 sp2)).length = nby (K 0) := by exact signL_len (by omega)
      have hA7 := hB7
      have hD7 := gD6.fr hf7 (by simp [SP])
      have hr7_sp2 := hr6_sp2.fr hf7 (by simp [SP] <;> omega) (by simp [SP] <;> omega)
      have hr7_sp3 := hr6_sp3.fr hf7 (by simp [SP] <;> omega) (by simp [SP] <;> omega)
      have hr7_26 := hr26.fr hf7 (by simp [SP] <;> omega) (by simp [SP] <;> omega)
      have hc7_400 := hf7 4 0 (by simp [SP] <;> omega)
      have hc7_5kx0 := hf7 5 kx (by simp [SP] <;> omega)
      have hF7 := hF6.tr hf7 (by simp [Hk, SP] <;> omega)
      show V X _ w _ _ s7 []
      refine v_aload_n hX 3 rfl (atL dAX6_prove_0 39 rfl) ?_
      refine gf_X6_58 hX hk0 (atL dAX6_prove_0 40 rfl) ?_
      refine v_aload_n hX 3 rfl (atL dAX6_prove_0 41 rfl) ?_
      refine gf_X6_55 hX hk0 (atL dAX6_prove_0 42 rfl) ?_
      refine v_iconst hX (atL dAX6_prove_0 43 rfl) ?_
      refine v_callV hX (As := [.ref (w.1 1 25), .int (iI (0))]) (rest := []) (c_X4_holds (xl X) w s7 26 (hH 1 26 (by simp [mn, tp])) (hA7 26) 25 (hH 1 25 (by simp [mn, tp])) (hA7 25) (by omega)) lk_X6_260 (hH 1 26 (by simp [mn, tp])) (fun _ => rfl) rfl rfl rfl (by rw [hR]; exact ⟨Nat.le_of_ble_eq_true rfl, Nat.le_of_ble_eq_true rfl⟩) (by rw [hR]; exact ⟨Nat.le_of_ble_eq_true rfl, Nat.le_of_ble_eq_true rfl⟩) rfl (Nat.le_of_ble_eq_true rfl) (atL dAX6_prove_0 44 rfl) (fun r8 z8 g8 => ?_)
      obtain ⟨ga8, gb8⟩ := g8
      rw [gb8]
      rw [hr7_26.2] at ga8
      rw [hr7.2] at ga8
      have gc8 : tf r8 ((tn K 0 (A.1 sp3)).take (signL p1 (nby (K 0)) (A.1 sp2)).length = signL p1 (nby (K 0)) (A.1 sp2)) := by rw [ga8]; split; exact tf_p (by assumption); exact tf_n (by assumption)
      have gd8 : r8 = 0 ∨ r8 = 1 := by rw [ga8]; split <;> simp
      show V X _ w _ _ s7 [.int (iI (r8))]
      refine v_if_eq hX ⟨by omega, by omega⟩ (tgt := 94) (atL dAX6_prove_0 45 rfl) (by decide) (fun h87 => ?_) (fun h87 => ?_)
      · refine v_iconst hX (atL dAX6_prove_0 48 rfl) ?_
        exact v_iret hX (atL dAX6_prove_0 49 rfl) (hret _ _ ⟨A, by have q := gc8; rw [signL_len (by omega), List.take_of_length_le (by rw [tn_len]; exact Nat.le_refl _)] at q; unfold f_prove; simp only [htk, htsp2, htsp3, hKe]; rw [if_neg (by omega), if_neg (by omega), if_neg (by omega), if_neg (fun c => c hw26), if_neg (q.f h87)], hS.keep hF7 hA7 hD7, hF7.fm⟩ _ (Nat.le_of_ble_eq_true rfl) (Nat.le_of_ble_eq_true rfl))
      · refine v_iconst hX (atL dAX6_prove_0 46 rfl) ?_
        refine v_goto hX (tgt := 95) (atL dAX6_prove_0 47 rfl) (by decide) ?_
        exact v_iret hX (atL dAX6_prove_0 49 rfl) (hret _ _ ⟨A, by have q := gc8; rw [signL_len (by omega), List.take_of_length_le (by rw [tn_len]; exact Nat.le_refl _)] at q; unfold f_prove; simp only [htk, htsp2, htsp3, hKe]; rw [if_neg (by omega), if_neg (by omega), if_neg (by omega), if_neg (fun c => c hw26), if_pos (q.t h87)], hS.keep hF7 hA7 hD7, hF7.fm⟩ _ (Nat.le_of_ble_eq_true rfl) (Nat.le_of_ble_eq_true rfl))
    · refine v_iconst hX (atL dAX6_prove_0 28 rfl) ?_
      exact v_iret hX (atL dAX6_prove_0 29 rfl) (hret _ _ ⟨A, by unfold f_prove; simp only [htk, htsp2, htsp3, hKe]; rw [if_neg (by omega), if_neg (by omega), if_neg (by omega), if_pos (gc6.resolve_left (fun q => by omega)).2], hS.keep hF6 gA6 gD6, hF6.fm⟩ _ (Nat.le_of_ble_eq_true rfl) (Nat.le_of_ble_eq_true rfl))
  · refine v_bipush hX (by decide +kernel) (atL dAX6_prove_0 20 rfl) ?_
    exact v_iret hX (atL dAX6_prove_0 21 rfl) (hret _ _ ⟨A, by unfold f_prove; simp only [htk, htsp2, htsp3, hKe]; rw [if_neg (by omega), if_neg (by omega), if_pos (by omega)], hS, FM.rf⟩ _ (Nat.le_of_ble_eq_true rfl) (Nat.le_of_ble_eq_true rfl))

set_option maxHeartbeats 1000000 in
set_option maxRecDepth 100000 in
theorem c_X6_salt (l : Launch) (hst : l.stackTraces = false) (w : Wl) (σ : St) (hk0 : w.2 0 0) (A : Ab) (hS : HS σ A) (p0 : Int) (hp0 : rI p0) (p1 : Int) (hp1 : rI p1) (p2 : Int) (hp2 : rI p2) (p3 : Int) (hp3 : rI p3) (p4 : Int) (hp4 : rI p4) : Cx l yX6_salt cX6_salt 11 (Option.some Jvm.ClassFile.FieldType.int) 7 148 5 30 wI [.ref (w.1 0 0), .int (iI (p0)), .int (iI (p1)), .int (iI (p2)), .int (iI (p3)), .int (iI (p4))] w σ (fun a σ' => ∃ A', f_salt A p0 p1 p2 p3 p4 = (0, a, A') ∧ HS σ' A' ∧ FM σ σ') (Xc (f_salt A p0 p1 p2 p3 p4) A) := by
  refine Cx.of (own := RX6) (lv := [(0, .ref (w.1 0 0)), (1, .int (iI (p0))), (2, .int (iI (p1))), (3, .int (iI (p2))), (4, .int (iI (p3))), (5, .int (iI (p4)))]) (by decide +kernel) rfl (Nat.le_of_ble_eq_true rfl) rfl (fun X hX hxl hR hcl hret hx => ?_)
  subst hxl
  have hH : ∀ c q, (c, q) ∈ mn σ 0 0 → w.2 c q := fun c q h => hcl 0 0 hk0 (c, q) h
  have hp0a := hp0.1
  have hp0b := hp0.2
  have hp1a := hp1.1
  have hp1b := hp1.2
  have hp2a := hp2.1
  have hp2b := hp2.2
  have hp3a := hp3.1
  have hp3b := hp3.2
  have hp4a := hp4.1
  have hp4b := hp4.2
  have hA := hS.2.1
  have hD := hS.2.2.1
  refine v_aload_n hX 0 rfl (atL dAX6_salt_0 0 rfl) ?_
  refine v_iload_n hX 1 rfl (atL dAX6_salt_0 1 rfl) ?_
  refine v_callVX hX (As := [.int (iI (p0))]) (rest := []) (c_X6_keyAt (xl X) hst w σ hk0 A hS p0 hp0) lk_X6_204 hk0 (fun _ => rfl) rfl rfl rfl (by rw [hR]; exact ⟨Nat.le_of_ble_eq_true rfl, Nat.le_of_ble_eq_true rfl⟩) (by rw [hR]; exact ⟨Nat.le_of_ble_eq_true rfl, Nat.le_of_ble_eq_true rfl⟩) rfl (Nat.le_of_ble_eq_true rfl) (atL dAX6_salt_0 2 rfl) (fun E hE => hx E (Or.inl ⟨hE.1, by unfold f_salt; exact if_pos (fun q => hE.2 (by omega))⟩) _ (Nat.le_of_ble_eq_true rfl) (Nat.le_of_ble_eq_true rfl)) (fun r1 z1 g1 => ?_)
  obtain ⟨kx, hkx, hkx2, ga1, gb1⟩ := g1
  rw [gb1]
  subst ga1
  obtain ⟨P, hPe⟩ : ∃ q, A.2.2.1 kx = q := ⟨_, rfl⟩
  obtain ⟨K, hKe⟩ : ∃ q, A.2.2.2 kx = q := ⟨_, rfl⟩
  have hK : KY σ kx P K := by rw [← hPe, ← hKe]; exact hS.2.2.2.2.2.2 kx hkx2
  have hk16 := hS.2.2.2.2.1
  have hkv : w.2 5 kx := hcl 12 0 (hH 12 0 (by simp [mn, tp])) (5, kx) (List.mem_map.mpr ⟨kx, List.mem_filter.mpr ⟨List.mem_range.mpr (by omega), decide_eq_true ((hS.2.2.2.2.2.1 kx (by omega)).trans (if_pos hkx2))⟩, rfl⟩)
  have htk : p0.toNat = kx := by omega
  have hk6 : w.2 6 kx := hcl 5 kx hkv (6, kx) (by simp [mn, tp])
  have hK6 := hK.2.1
  have hKP := hK.1
  have hkp : ∀ j, j < P → w.2 3 (32 + 8 * kx + j) := fun j hj => hcl 6 kx hk6 (3, 32 + 8 * kx + j) (by simp [mn]; omega)
  have hKl := hK.len
  have hK5 := hK.2.2.1
  have hKl2 : nby (K 0) ≤ 128 ∧ 1 ≤ nby (K 0) := hKl
  have hK0 := hK.2.2.2.2.1
  have hblK := blen_pos hK0
  have hblK2 := blen_le hK.2.2.2.2.2
  have hrBK : rB (blen (K 0) - 1) ≤ nby (K 0) := by unfold rB nby; omega
  show V X _ w _ _ σ [.ref (w.1 5 kx)]
  refine v_astore hX (lv' := [(6, .ref (w.1 5 kx)), (0, .ref (w.1 0 0)), (1, .int (iI (p0))), (2, .int (iI (p1))), (3, .int (iI (p2))), (4, .int (iI (p3))), (5, .int (iI (p4)))]) (Nat.le_of_ble_eq_true rfl) rfl (atL dAX6_salt_0 3 rfl) ?_
  refine v_aload_n hX 1 rfl (atL dAX6_salt_0 4 rfl) ?_
  refine v_iload_n hX 4 rfl (atL dAX6_salt_0 5 rfl) ?_
  refine v_callVX hX (As := [.int (iI (p2))]) (rest := []) (c_X6_slotAt (xl X) hst w σ hk0 p2 hp2) lk_X6_92 hk0 (fun _ => rfl) rfl rfl rfl (by rw [hR]; exact ⟨Nat.le_of_ble_eq_true rfl, Nat.le_of_ble_eq_true rfl⟩) (by rw [hR]; exact ⟨Nat.le_of_ble_eq_true rfl, Nat.le_of_ble_eq_true rfl⟩) rfl (Nat.le_of_ble_eq_true rfl) (atL dAX6_salt_0 6 rfl) (fun E hE => hx E (Or.inl ⟨hE.1, by unfold f_salt; exact if_pos (fun q => hE.2 (by omega))⟩) _ (Nat.le_of_ble_eq_true rfl) (Nat.le_of_ble_eq_true rfl)) (fun r2 z2 g2 => ?_)
  obtain ⟨sp2, hsp2, hsp22, ga2, gb2⟩ := g2
  rw [gb2]
  subst ga2
  have hrsp2 := hS.1 sp2 (by omega)
  obtain ⟨lsp2, hlsp2⟩ : ∃ q, (A.1 sp2).length = q := ⟨_, rfl⟩
  have hqsp2 : lsp2 ≤ 256 := by rw [← hlsp2]; exact hS.sl hsp22
  have hvsp2 : w.2 1 sp2 := hcl 11 0 (hH 11 0 (by simp [mn, tp])) (1, sp2) (by simp [mn]; omega)
  have htsp2 : p2.toNat = sp2 := by omega
  show V X _ w _ _ σ [.ref (w.1 1 sp2)]
  refine v_astore hX (lv' := [(7, .ref (w.1 1 sp2)), (6, .ref (w.1 5 kx)), (0, .ref (w.1 0 0)), (1, .int (iI (p0))), (2, .int (iI (p1))), (3, .int (iI (p2))), (4, .int (iI (p3))), (5, .int (iI (p4)))]) (Nat.le_of_ble_eq_true rfl) rfl (atL dAX6_salt_0 7 rfl) ?_
  refine v_aload_n hX 2 rfl (atL dAX6_salt_0 8 rfl) ?_
  refine v_iload hX 6 rfl (atL dAX6_salt_0 9 rfl) ?_
  refine v_callVX hX (As := [.int (iI (p3))]) (rest := []) (c_X6_slotAt (xl X) hst w σ hk0 p3 hp3) lk_X6_92 hk0 (fun _ => rfl) rfl rfl rfl (by rw [hR]; exact ⟨Nat.le_of_ble_eq_true rfl, Nat.le_of_ble_eq_true rfl⟩) (by rw [hR]; exact ⟨Nat.le_of_ble_eq_true rfl, Nat.le_of_ble_eq_true rfl⟩) rfl (Nat.le_of_ble_eq_true rfl) (atL dAX6_salt_0 10 rfl) (fun E hE => hx E (Or.inl ⟨hE.1, by unfold f_salt; exact if_pos (fun q => hE.2 (by omega))⟩) _ (Nat.le_of_ble_eq_true rfl) (Nat.le_of_ble_eq_true rfl)) (fun r3 z3 g3 => ?_)
  obtain ⟨sp3, hsp3, hsp32, ga3, gb3⟩ := g3
  rw [gb3]
  subst ga3
  have hrsp3 := hS.1 sp3 (by omega)
  obtain ⟨lsp3, hlsp3⟩ : ∃ q, (A.1 sp3).length = q := ⟨_, rfl⟩
  have hqsp3 : lsp3 ≤ 256 := by rw [← hlsp3]; exact hS.sl hsp32
  have hvsp3 : w.2 1 sp3 := hcl 11 0 (hH 11 0 (by simp [mn, tp])) (1, sp3) (by simp [mn]; omega)
  have htsp3 : p3.toNat = sp3 := by omega
  show V X _ w _ _ σ [.ref (w.1 1 sp3)]
  refine v_astore hX (lv' := [(8, .ref (w.1 1 sp3)), (7, .ref (w.1 1 sp2)), (6, .ref (w.1 5 kx)), (0, .ref (w.1 0 0)), (1, .int (iI (p0))), (2, .int (iI (p1))), (3, .int (iI (p2))), (4, .int (iI (p3))), (5, .int (iI (p4)))]) (Nat.le_of_ble_eq_true rfl) rfl (atL dAX6_salt_0 11 rfl) ?_
  refine v_aload_n hX 3 rfl (atL dAX6_salt_0 12 rfl) ?_
  refine v_iload hX 8 rfl (atL dAX6_salt_0 13 rfl) ?_
  refine v_callVX hX (As := [.int (iI (p4))]) (rest := []) (c_X6_slotAt (xl X) hst w σ hk0 p4 hp4) lk_X6_92 hk0 (fun _ => rfl) rfl rfl rfl (by rw [hR]; exact ⟨Nat.le_of_ble_eq_true rfl, Nat.le_of_ble_eq_true rfl⟩) (by rw [hR]; exact ⟨Nat.le_of_ble_eq_true rfl, Nat.le_of_ble_eq_true rfl⟩) rfl (Nat.le_of_ble_eq_true rfl) (atL dAX6_salt_0 14 rfl) (fun E hE => hx E (Or.inl ⟨hE.1, by unfold f_salt; exact if_pos (fun q => hE.2 (by omega))⟩) _ (Nat.le_of_ble_eq_true rfl) (Nat.le_of_ble_eq_true rfl)) (fun r4 z4 g4 => ?_)
  obtain ⟨sp4, hsp4, hsp42, ga4, gb4⟩ := g4
  rw [gb4]
  subst ga4
  have hrsp4 := hS.1 sp4 (by omega)
  obtain ⟨lsp4, hlsp4⟩ : ∃ q, (A.1 sp4).length = q := ⟨_, rfl⟩
  have hqsp4 : lsp4 ≤ 256 := by rw [← hlsp4]; exact hS.sl hsp42
  have hvsp4 : w.2 1 sp4 := hcl 11 0 (hH 11 0 (by simp [mn, tp])) (1, sp4) (by simp [mn]; omega)
  have htsp4 : p4.toNat = sp4 := by omega
  show V X _ w _ _ σ [.ref (w.1 1 sp4)]
  refine v_astore hX (lv' := [(9, .ref (w.1 1 sp4)), (8, .ref (w.1 1 sp3)), (7, .ref (w.1 1 sp2)), (6, .ref (w.1 5 kx)), (0, .ref (w.1 0 0)), (1, .int (iI (p0))), (2, .int (iI (p1))), (3, .int (iI (p2))), (4, .int (iI (p3))), (5, .int (iI (p4)))]) (Nat.le_of_ble_eq_true rfl) rfl (atL dAX6_salt_0 15 rfl) ?_
  refine v_aload_n hX 4 rfl (atL dAX6_salt_0 16 rfl) ?_
  refine v_iload_n hX 6 rfl (atL dAX6_salt_0 17 rfl) ?_
  refine v_callVX hX (As := [.int (iI (p1))]) (rest := []) (c_X6_checkHash (xl X) hst w σ hk0 p1 hp1) lk_X6_163 hk0 (fun _ => rfl) rfl rfl rfl (by rw [hR]; exact ⟨Nat.le_of_ble_eq_true rfl, Nat.le_of_ble_eq_true rfl⟩) (by rw [hR]; exact ⟨Nat.le_of_ble_eq_true rfl, Nat.le_of_ble_eq_true rfl⟩) rfl (Nat.le_of_ble_eq_true rfl) (atL dAX6_salt_0 18 rfl) (fun E hE => hx E (Or.inr ⟨hE.1, by unfold f_salt; rw [if_neg (by omega)]; exact if_pos (by have := hE.2; omega)⟩) _ (Nat.le_of_ble_eq_true rfl) (Nat.le_of_ble_eq_true rfl)) (fun r5 z5 g5 => ?_)
  obtain ⟨hHs, gb5⟩ := g5
  rw [gb5]
  have hll := hl_le p1
  have hlg := hl_ge p1
  show V X _ w _ _ σ []
  refine v_aload hX 3 rfl (atL dAX6_salt_0 19 rfl) ?_
  refine v_callV hX (As := []) (rest := []) (c_X2_isOpen (xl X) w σ kx hkv P K hK) lk_X6_216 hkv (fun _ => rfl) rfl rfl rfl (by rw [hR]; exact ⟨Nat.le_of_ble_eq_true rfl, Nat.le_of_ble_eq_true rfl⟩) (by rw [hR]; exact ⟨Nat.le_of_ble_eq_true rfl, Nat.le_of_ble_eq_true rfl⟩) rfl (Nat.le_of_ble_eq_true rfl) (atL dAX6_salt_0 20 rfl) (fun r6 z6 g6 => ?_)
  obtain ⟨gc6, gb6⟩ := g6
  rw [gb6]
  have gd6 : r6 = 0 ∨ r6 = 1 := by rcases gc6 with q | q <;> omega
  show V X _ w _ _ σ [.int (iI (r6))]
  refine v_if_eq hX ⟨by omega, by omega⟩ (tgt := 46) (atL dAX6_salt_0 21 rfl) (by decide) (fun h40 => ?_) (fun h40 => ?_)
  · have hP8 : P = 8 := by have := gc6.f h40; omega
    refine v_aload hX 3 rfl (atL dAX6_salt_0 24 rfl) ?_
    refine v_iconst hX (atL dAX6_salt_0 25 rfl) ?_
    refine v_callV hX (As := [.int (iI (0))]) (rest := []) (c_X2_at (xl X) w σ kx hkv P K hK 0 (by omega)) lk_X6_211 hkv (fun _ => rfl) rfl rfl rfl (by rw [hR]; exact ⟨Nat.le_of_ble_eq_true rfl, Nat.le_of_ble_eq_true rfl⟩) (by rw [hR]; exact ⟨Nat.le_of_ble_eq_true rfl, Nat.le_of_ble_eq_true rfl⟩) rfl (Nat.le_of_ble_eq_true rfl) (atL dAX6_salt_0 26 rfl) (fun r7 z7 g7 => ?_)
    obtain ⟨ga7, gb7⟩ := g7
    rw [gb7]
    subst ga7
    have hwk7 : WN σ (32 + 8 * kx + 0) (K 0) := hK.2.2.2.1 0 (by omega)
    show V X _ w _ _ σ [.ref (w.1 3 (32 + 8 * kx + 0))]
    refine v_callV hX (As := []) (rest := []) (c_X5_bitLength (xl X) w σ (32 + 8 * kx + 0) (K 0) (hkp 0 (by omega)) hwk7) lk_X6_149 (hkp 0 (by omega)) (fun _ => rfl) rfl rfl rfl (by rw [hR]; exact ⟨Nat.le_of_ble_eq_true rfl, Nat.le_of_ble_eq_true rfl⟩) (by rw [hR]; exact ⟨Nat.le_of_ble_eq_true rfl, Nat.le_of_ble_eq_true rfl⟩) rfl (Nat.le_of_ble_eq_true rfl) (atL dAX6_salt_0 27 rfl) (fun r8 z8 g8 => ?_)
    obtain ⟨ga8, gb8⟩ := g8
    rw [gb8]
    subst ga8
    have hbl8 : blen (K 0) ≤ 2240 := blen_le (WN.le hwk7)
    show V X _ w _ _ σ [.int (iI (((blen (K 0) : Nat) : Int)))]
    refine v_iconst hX (atL dAX6_salt_0 28 rfl) ?_
    refine v_isub hX (iI_sub _ _) (atL dAX6_salt_0 29 rfl) ?_
    rw [show ((((blen (K 0) : Nat) : Int)) - 1) = ((blen (K 0) - 1 : Nat) : Int) from (by omega)]
    refine v_istore hX (lv' := [(10, .int (iI (((blen (K 0) - 1 : Nat) : Int)))), (9, .ref (w.1 1 sp4)), (8, .ref (w.1 1 sp3)), (7, .ref (w.1 1 sp2)), (6, .ref (w.1 5 kx)), (0, .ref (w.1 0 0)), (1, .int (iI (p0))), (2, .int (iI (p1))), (3, .int (iI (p2))), (4, .int (iI (p3))), (5, .int (iI (p4)))]) (Nat.le_of_ble_eq_true rfl) rfl (atL dAX6_salt_0 30 rfl) ?_
    refine v_iload hX 0 rfl (atL dAX6_salt_0 31 rfl) ?_
    refine v_callS hX (As := [.int (iI (((blen (K 0) - 1 : Nat) : Int)))]) (rest := []) (c_X3_bytesOf (xl X) w σ (blen (K 0) - 1) (by omega)) lk_X6_264 rfl (by rw [hR]; exact ⟨Nat.le_of_ble_eq_true rfl, Nat.le_of_ble_eq_true rfl⟩) (by rw [hR]; exact ⟨Nat.le_of_ble_eq_true rfl, Nat.le_of_ble_eq_true rfl⟩) rfl (Nat.le_of_ble_eq_true rfl) (atL dAX6_salt_0 32 rfl) (fun r9 z9 g9 => ?_)
    obtain ⟨ga9, gb9⟩ := g9
    rw [gb9]
    subst ga9
    show V X _ w _ _ σ [.int (iI (((rB (blen (K 0) - 1) : Nat) : Int)))]
    refine v_iload_n hX 7 rfl (atL dAX6_salt_0 33 rfl) ?_
    refine v_callS hX (As := [.int (iI (p1))]) (rest := [.int (iI (((rB (blen (K 0) - 1) : Nat) : Int)))]) (c_X1_lengthOf (xl X) w σ p1 hp1) lk_X6_224 rfl (by rw [hR]; exact ⟨Nat.le_of_ble_eq_true rfl, Nat.le_of_ble_eq_true rfl⟩) (by rw [hR]; exact ⟨Nat.le_of_ble_eq_true rfl, Nat.le_of_ble_eq_true rfl⟩) rfl (Nat.le_of_ble_eq_true rfl) (atL dAX6_salt_0 34 rfl) (fun r10 z10 g10 => ?_)
    obtain ⟨ga10, gb10⟩ := g10
    rw [gb10]
    subst ga10
    show V X _ w _ _ σ [.int (iI ((hl p1 : Int))), .int (iI (((rB (blen (K 0) - 1) : Nat) : Int)))]
    refine v_aload hX 2 rfl (atL dAX6_salt_0 35 rfl) ?_
    refine gf_X6_86 hX (v := ((lsp3 : Nat) : Int)) ((hrsp3.len.trans (by rw [hlsp3]))) hvsp3 (atL dAX6_salt_0 36 rfl) ?_
    refine v_iadd hX (iI_add _ _) (atL dAX6_salt_0 37 rfl) ?_
    refine v_iconst hX (atL dAX6_salt_0 38 rfl) ?_
    refine v_iadd hX (iI_add _ _) (atL dAX6_salt_0 39 rfl) ?_
    refine v_icmp_ge hX ⟨by omega, by omega⟩ ⟨by omega, by omega⟩ (tgt := 82) (atL dAX6_salt_0 40 rfl) (by decide) (fun h76 => ?_) (fun h76 => ?_)
    · refine v_aload_n hX 5 rfl (atL dAX6_salt_0 43 rfl) ?_
      refine gf_X6_51 hX hk0 (atL dAX6_salt_0 44 rfl) ?_
      refine v_aload_n hX 5 rfl (atL dAX6_salt_0 45 rfl) ?_
      refine gf_X6_55 hX hk0 (atL dAX6_salt_0 46 rfl) ?_
      refine v_iload hX 0 rfl (atL dAX6_salt_0 47 rfl) ?_
      refine v_iload_n hX 7 rfl (atL dAX6_salt_0 48 rfl) ?_
      refine v_aload hX 3 rfl (atL dAX6_salt_0 49 rfl) ?_
      refine v_aload hX 2 rfl (atL dAX6_salt_0 50 rfl) ?_
      refine v_callV hX (As := [.ref (w.1 1 25), .int (iI (((blen (K 0) - 1 : Nat) : Int))), .int (iI (p1)), .ref (w.1 1 sp2), .ref (w.1 1 sp3)]) (rest := []) (c_X3_saltIn (xl X) w σ (hH 10 0 (by simp [mn, tp])) (hH 1 25 (by simp [mn, tp])) hA (blen (K 0) - 1) (by omega) p1 hp1 sp2 hvsp2 (by omega) (A.1 sp2) hrsp2 sp3 hvsp3 (by omega) (A.1 sp3) hrsp3 (by rw [hlsp3]; omega)) lk_X6_267 (hH 10 0 (by simp [mn, tp])) (fun _ => rfl) rfl rfl rfl (by rw [hR]; exact ⟨Nat.le_of_ble_eq_true rfl, Nat.le_of_ble_eq_true rfl⟩) (by rw [hR]; exact ⟨Nat.le_of_ble_eq_true rfl, Nat.le_of_ble_eq_true rfl⟩) rfl (Nat.le_of_ble_eq_true rfl) (atL dAX6_salt_0 51 rfl) (fun _ s11 e11 => ?_)
      obtain ⟨hr11, hB11, hf11⟩ := e11
      have hl11 : (saltL p1 (blen (K 0) - 1) (A.1 sp2) (A.1 sp3)).length = rB (blen (K 0) - 1) := by exact saltL_len (by rw [hlsp3]; omega)
      have hA11 := hB11
      have hD11 := hD.fr hf11 (by simp [SP])
      have hr11_sp2 := hrsp2.fr hf11 (by simp [SP] <;> omega) (by simp [SP] <;> omega)
      have hr11_sp3 := hrsp3.fr hf11 (by simp [SP] <;> omega) (by simp [SP] <;> omega)
      have hr11_sp4 := hrsp4.fr hf11 (by simp [SP] <;> omega) (by simp [SP] <;> omega)
      have hw11_328kx0 := nm.fr hwk7 hf11 (by simp [SP] <;> omega) (by simp [SP] <;> omega)
      have hc11_400 := hf11 4 0 (by simp [SP] <;> omega)
      have hc11_5kx0 := hf11 5 kx (by simp [SP] <;> omega)
      have hF11 := (FH.rf : FH sp4 σ σ).tr hf11 (by simp [Hk, SP] <;> omega)
      show V X _ w _ _ s11 []
      refine v_aload_n hX 5 rfl (atL dAX6_salt_0 52 rfl) ?_
      refine v_aload hX 4 rfl (atL dAX6_salt_0 53 rfl) ?_
      refine v_iconst hX (atL dAX6_salt_0 54 rfl) ?_
      refine v_aload hX 1 rfl (atL dAX6_salt_0 55 rfl) ?_
      refine v_callV hX (As := [.ref (w.1 5 kx), .int (iI (1)), .ref (w.1 1 sp4)]) (rest := []) (c_X6_putTurned (xl X) w s11 hk0 hA11 hD11 kx hkv P K (hK.frH hF11) 1 (by omega) sp4 hvsp4 (by omega) (saltL p1 (blen (K 0) - 1) (A.1 sp2) (A.1 sp3)) hr11 (saltL_lt hK0 hrsp3.by (by rw [hlsp3]; omega))) lk_X6_231 hk0 (fun _ => rfl) rfl rfl rfl (by rw [hR]; exact ⟨Nat.le_of_ble_eq_true rfl, Nat.le_of_ble_eq_true rfl⟩) (by rw [hR]; exact ⟨Nat.le_of_ble_eq_true rfl, Nat.le_of_ble_eq_true rfl⟩) rfl (Nat.le_of_ble_eq_true rfl) (atL dAX6_salt_0 56 rfl) (fun r12 s12 e12 => ?_)
      obtain ⟨ga12, gR12, gA12, gD12, gF12⟩ := e12
      subst ga12
      have hF12 := hF11.tr2 gF12
      show V X _ w _ _ s12 [.int (iI (((nby (K 0) : Nat) : Int)))]
      exact v_iret hX (atL dAX6_salt_0 57 rfl) (hret _ _ ⟨A.put sp4 (tn K 1 (saltL p1 (blen (K 0) - 1) (A.1 sp2) (A.1 sp3))), by unfold f_salt; simp only [htk, htsp2, htsp3, htsp4, hPe, hKe]; rw [if_neg (by omega), if_neg (by omega), if_neg (gc6.f h40), if_neg (by rw [hlsp3]; omega)], hS.put hF12 gA12 gD12 gR12, hF12.fm⟩ _ (Nat.le_of_ble_eq_true rfl) (Nat.le_of_ble_eq_true rfl))
    · refine v_bipush hX (by decide +kernel) (atL dAX6_salt_0 41 rfl) ?_
      exact v_iret hX (atL dAX6_salt_0 42 rfl) (hret _ _ ⟨A, by unfold f_salt; simp only [htk, htsp2, htsp3, htsp4, hPe, hKe]; rw [if_neg (by omega), if_neg (by omega), if_neg (gc6.f h40), if_pos (by rw [hlsp3]; omega)], hS, FM.rf⟩ _ (Nat.le_of_ble_eq_true rfl) (Nat.le_of_ble_eq_true rfl))
  · refine v_bipush hX (by decide +kernel) (atL dAX6_salt_0 22 rfl) ?_
    exact v_iret hX (atL dAX6_salt_0 23 rfl) (hret _ _ ⟨A, by unfold f_salt; simp only [htk, htsp2, htsp3, htsp4, hPe, hKe]; rw [if_neg (by omega), if_neg (by omega), if_pos (gc6.t h40)], hS, FM.rf⟩ _ (Nat.le_of_ble_eq_true rfl) (Nat.le_of_ble_eq_true rfl))

set_option maxHeartbeats 1000000 in
set_option maxRecDepth 100000 in
theorem c_X6_taste (l : Launch) (hst : l.stackTraces = false) (w : Wl) (σ : St) (hk0 : w.2 0 0) (A : Ab) (hS : HS σ A) (p0 : Int) (hp0 : rI p0) (p1 : Int) (hp1 : rI p1) (p2 : Int) (hp2 : rI p2) (p3 : Int) (hp3 : rI p3) (p4 : Int) (hp4 : rI p4) : Cx l yX6_taste cX6_taste 10 (Option.some Jvm.ClassFile.FieldType.int) 7 151 5 30 wI [.ref (w.1 0 0), .int (iI (p0)), .int (iI (p1)), .int (iI (p2)), .int (iI (p3)), .int (iI (p4))] w σ (fun a σ' => ∃ A', f_taste A p0 p1 p2 p3 p4 = (0, a, A') ∧ HS σ' A' ∧ FM σ σ') (Xc (f_taste A p0 p1 p2 p3 p4) A) := by
  refine Cx.of (own := RX6) (lv := [(0, .ref (w.1 0 0)), (1, .int (iI (p0))), (2, .int (iI (p1))), (3, .int (iI (p2))), (4, .int (iI (p3))), (5, .int (iI (p4)))]) (by decide +kernel) rfl (Nat.le_of_ble_eq_true rfl) rfl (fun X hX hxl hR hcl hret hx => ?_)
  subst hxl
  have hH : ∀ c q, (c, q) ∈ mn σ 0 0 → w.2 c q := fun c q h => hcl 0 0 hk0 (c, q) h
  have hp0a := hp0.1
  have hp0b := hp0.2
  have hp1a := hp1.1
  have hp1b := hp1.2
  have hp2a := hp2.1
  have hp2b := hp2.2
  have hp3a := hp3.1
  have hp3b := hp3.2
  have hp4a := hp4.1
  have hp4b := hp4.2
  have hA := hS.2.1
  have hD := hS.2.2.1
  refine v_aload_n hX 0 rfl (atL dAX6_taste_0 0 rfl) ?_
  refine v_iload_n hX 1 rfl (atL dAX6_taste_0 1 rfl) ?_
  refine v_callVX hX (As := [.int (iI (p0))]) (rest := []) (c_X6_keyAt (xl X) hst w σ hk0 A hS p0 hp0) lk_X6_204 hk0 (fun _ => rfl) rfl rfl rfl (by rw [hR]; exact ⟨Nat.le_of_ble_eq_true rfl, Nat.le_of_ble_eq_true rfl⟩) (by rw [hR]; exact ⟨Nat.le_of_ble_eq_true rfl, Nat.le_of_ble_eq_true rfl⟩) rfl (Nat.le_of_ble_eq_true rfl) (atL dAX6_taste_0 2 rfl) (fun E hE => hx E (Or.inl ⟨hE.1, by unfold f_taste; exact if_pos (fun q => hE.2 (by omega))⟩) _ (Nat.le_of_ble_eq_true rfl) (Nat.le_of_ble_eq_true rfl)) (fun r1 z1 g1 => ?_)
  obtain ⟨kx, hkx, hkx2, ga1, gb1⟩ := g1
  rw [gb1]
  subst ga1
  obtain ⟨P, hPe⟩ : ∃ q, A.2.2.1 kx = q := ⟨_, rfl⟩
  obtain ⟨K, hKe⟩ : ∃ q, A.2.2.2 kx = q := ⟨_, rfl⟩
  have hK : KY σ kx P K := by rw [← hPe, ← hKe]; exact hS.2.2.2.2.2.2 kx hkx2
  have hk16 := hS.2.2.2.2.1
  have hkv : w.2 5 kx := hcl 12 0 (hH 12 0 (by simp [mn, tp])) (5, kx) (List.mem_map.mpr ⟨kx, List.mem_filter.mpr ⟨List.mem_range.mpr (by omega), decide_eq_true ((hS.2.2.2.2.2.1 kx (by omega)).trans (if_pos hkx2))⟩, rfl⟩)
  have htk : p0.toNat = kx := by omega
  have hk6 : w.2 6 kx := hcl 5 kx hkv (6, kx) (by simp [mn, tp])
  have hK6 := hK.2.1
  have hKP := hK.1
  have hkp : ∀ j, j < P → w.2 3 (32 + 8 * kx + j) := fun j hj => hcl 6 kx hk6 (3, 32 + 8 * kx + j) (by simp [mn]; omega)
  have hKl := hK.len
  have hK5 := hK.2.2.1
  have hKl2 : nby (K 0) ≤ 128 ∧ 1 ≤ nby (K 0) := hKl
  have hK0 := hK.2.2.2.2.1
  have hblK := blen_pos hK0
  have hblK2 := blen_le hK.2.2.2.2.2
  have hrBK : rB (blen (K 0) - 1) ≤ nby (K 0) := by unfold rB nby; omega
  show V X _ w _ _ σ [.ref (w.1 5 kx)]
  refine v_astore hX (lv' := [(6, .ref (w.1 5 kx)), (0, .ref (w.1 0 0)), (1, .int (iI (p0))), (2, .int (iI (p1))), (3, .int (iI (p2))), (4, .int (iI (p3))), (5, .int (iI (p4)))]) (Nat.le_of_ble_eq_true rfl) rfl (atL dAX6_taste_0 3 rfl) ?_
  refine v_aload_n hX 1 rfl (atL dAX6_taste_0 4 rfl) ?_
  refine v_iload_n hX 4 rfl (atL dAX6_taste_0 5 rfl) ?_
  refine v_callVX hX (As := [.int (iI (p2))]) (rest := []) (c_X6_slotAt (xl X) hst w σ hk0 p2 hp2) lk_X6_92 hk0 (fun _ => rfl) rfl rfl rfl (by rw [hR]; exact ⟨Nat.le_of_ble_eq_true rfl, Nat.le_of_ble_eq_true rfl⟩) (by rw [hR]; exact ⟨Nat.le_of_ble_eq_true rfl, Nat.le_of_ble_eq_true rfl⟩) rfl (Nat.le_of_ble_eq_true rfl) (atL dAX6_taste_0 6 rfl) (fun E hE => hx E (Or.inl ⟨hE.1, by unfold f_taste; exact if_pos (fun q => hE.2 (by omega))⟩) _ (Nat.le_of_ble_eq_true rfl) (Nat.le_of_ble_eq_true rfl)) (fun r2 z2 g2 => ?_)
  obtain ⟨sp2, hsp2, hsp22, ga2, gb2⟩ := g2
  rw [gb2]
  subst ga2
  have hrsp2 := hS.1 sp2 (by omega)
  obtain ⟨lsp2, hlsp2⟩ : ∃ q, (A.1 sp2).length = q := ⟨_, rfl⟩
  have hqsp2 : lsp2 ≤ 256 := by rw [← hlsp2]; exact hS.sl hsp22
  have hvsp2 : w.2 1 sp2 := hcl 11 0 (hH 11 0 (by simp [mn, tp])) (1, sp2) (by simp [mn]; omega)
  have htsp2 : p2.toNat = sp2 := by omega
  show V X _ w _ _ σ [.ref (w.1 1 sp2)]
  refine v_astore hX (lv' := [(7, .ref (w.1 1 sp2)), (6, .ref (w.1 5 kx)), (0, .ref (w.1 0 0)), (1, .int (iI (p0))), (2, .int (iI (p1))), (3, .int (iI (p2))), (4, .int (iI (p3))), (5, .int (iI (p4)))]) (Nat.le_of_ble_eq_true rfl) rfl (atL dAX6_taste_0 7 rfl) ?_
  refine v_aload_n hX 2 rfl (atL dAX6_taste_0 8 rfl) ?_
  refine v_iload hX 6 rfl (atL dAX6_taste_0 9 rfl) ?_
  refine v_callVX hX (As := [.int (iI (p3))]) (rest := []) (c_X6_slotAt (xl X) hst w σ hk0 p3 hp3) lk_X6_92 hk0 (fun _ => rfl) rfl rfl rfl (by rw [hR]; exact ⟨Nat.le_of_ble_eq_true rfl, Nat.le_of_ble_eq_true rfl⟩) (by rw [hR]; exact ⟨Nat.le_of_ble_eq_true rfl, Nat.le_of_ble_eq_true rfl⟩) rfl (Nat.le_of_ble_eq_true rfl) (atL dAX6_taste_0 10 rfl) (fun E hE => hx E (Or.inl ⟨hE.1, by unfold f_taste; exact if_pos (fun q => hE.2 (by omega))⟩) _ (Nat.le_of_ble_eq_true rfl) (Nat.le_of_ble_eq_true rfl)) (fun r3 z3 g3 => ?_)
  obtain ⟨sp3, hsp3, hsp32, ga3, gb3⟩ := g3
  rw [gb3]
  subst ga3
  have hrsp3 := hS.1 sp3 (by omega)
  obtain ⟨lsp3, hlsp3⟩ : ∃ q, (A.1 sp3).length = q := ⟨_, rfl⟩
  have hqsp3 : lsp3 ≤ 256 := by rw [← hlsp3]; exact hS.sl hsp32
  have hvsp3 : w.2 1 sp3 := hcl 11 0 (hH 11 0 (by simp [mn, tp])) (1, sp3) (by simp [mn]; omega)
  have htsp3 : p3.toNat = sp3 := by omega
  show V X _ w _ _ σ [.ref (w.1 1 sp3)]
  refine v_astore hX (lv' := [(8, .ref (w.1 1 sp3)), (7, .ref (w.1 1 sp2)), (6, .ref (w.1 5 kx)), (0, .ref (w.1 0 0)), (1, .int (iI (p0))), (2, .int (iI (p1))), (3, .int (iI (p2))), (4, .int (iI (p3))), (5, .int (iI (p4)))]) (Nat.le_of_ble_eq_true rfl) rfl (atL dAX6_taste_0 11 rfl) ?_
  refine v_aload_n hX 3 rfl (atL dAX6_taste_0 12 rfl) ?_
  refine v_iload_n hX 5 rfl (atL dAX6_taste_0 13 rfl) ?_
  refine v_callVX hX (As := [.int (iI (p1))]) (rest := []) (c_X6_checkHash (xl X) hst w σ hk0 p1 hp1) lk_X6_163 hk0 (fun _ => rfl) rfl rfl rfl (by rw [hR]; exact ⟨Nat.le_of_ble_eq_true rfl, Nat.le_of_ble_eq_true rfl⟩) (by rw [hR]; exact ⟨Nat.le_of_ble_eq_true rfl, Nat.le_of_ble_eq_true rfl⟩) rfl (Nat.le_of_ble_eq_true rfl) (atL dAX6_taste_0 14 rfl) (fun E hE => hx E (Or.inr ⟨hE.1, by unfold f_taste; rw [if_neg (by omega)]; exact if_pos (by have := hE.2; omega)⟩) _ (Nat.le_of_ble_eq_true rfl) (Nat.le_of_ble_eq_true rfl)) (fun r4 z4 g4 => ?_)
  obtain ⟨hHs, gb4⟩ := g4
  rw [gb4]
  have hll := hl_le p1
  have hlg := hl_ge p1
  show V X _ w _ _ σ []
  refine v_iload hX 8 rfl (atL dAX6_taste_0 15 rfl) ?_
  refine v_if_lt hX ⟨by omega, by omega⟩ (tgt := 40) (atL dAX6_taste_0 16 rfl) (by decide) (fun h29 => ?_) (fun h29 => ?_)
  · exact v_throwSW hX hst wd_317 xi_A (List.mem_of_getElem? (i := 10) rfl) xg_A xl_A xn_A (by decide +kernel) (atL dAX6_taste_0 20 rfl) (atL dAX6_taste_0 21 rfl) (atL dAX6_taste_0 22 rfl) (atL dAX6_taste_0 23 rfl) (atL dAX6_taste_0 24 rfl) (by rw [hR]; exact ⟨Nat.le_of_ble_eq_true rfl, Nat.le_of_ble_eq_true rfl⟩) (by rw [hR]; exact ⟨Nat.le_of_ble_eq_true rfl, Nat.le_of_ble_eq_true rfl⟩) (hx _ (Or.inr ⟨rfl, by unfold f_taste; rw [if_neg (by omega), if_pos (by omega)]⟩) _ (Nat.le_of_ble_eq_true rfl) (Nat.le_of_ble_eq_true rfl))
  · refine v_iload hX 8 rfl (atL dAX6_taste_0 17 rfl) ?_
    refine v_sipush hX (by decide +kernel) (atL dAX6_taste_0 18 rfl) ?_
    refine v_icmp_le hX ⟨by omega, by omega⟩ ⟨by omega, by omega⟩ (tgt := 51) (atL dAX6_taste_0 19 rfl) (by decide) (fun h37 => ?_) (fun h37 => ?_)
    · obtain ⟨xx, rfl⟩ : ∃ q : Nat, p4 = (q : Int) := ⟨p4.toNat, by omega⟩
      refine v_aload hX 2 rfl (atL dAX6_taste_0 25 rfl) ?_
      refine v_iconst hX (atL dAX6_taste_0 26 rfl) ?_
      refine v_callV hX (As := [.int (iI (0))]) (rest := []) (c_X2_at (xl X) w σ kx hkv P K hK 0 (by omega)) lk_X6_211 hkv (fun _ => rfl) rfl rfl rfl (by rw [hR]; exact ⟨Nat.le_of_ble_eq_true rfl, Nat.le_of_ble_eq_true rfl⟩) (by rw [hR]; exact ⟨Nat.le_of_ble_eq_true rfl, Nat.le_of_ble_eq_true rfl⟩) rfl (Nat.le_of_ble_eq_true rfl) (atL dAX6_taste_0 27 rfl) (fun r5 z5 g5 => ?_)
      obtain ⟨ga5, gb5⟩ := g5
      rw [gb5]
      subst ga5
      have hwk5 : WN σ (32 + 8 * kx + 0) (K 0) := hK.2.2.2.1 0 (by omega)
      show V X _ w _ _ σ [.ref (w.1 3 (32 + 8 * kx + 0))]
      refine v_callV hX (As := []) (rest := []) (c_X5_bitLength (xl X) w σ (32 + 8 * kx + 0) (K 0) (hkp 0 (by omega)) hwk5) lk_X6_149 (hkp 0 (by omega)) (fun _ => rfl) rfl rfl rfl (by rw [hR]; exact ⟨Nat.le_of_ble_eq_true rfl, Nat.le_of_ble_eq_true rfl⟩) (by rw [hR]; exact ⟨Nat.le_of_ble_eq_true rfl, Nat.le_of_ble_eq_true rfl⟩) rfl (Nat.le_of_ble_eq_true rfl) (atL dAX6_taste_0 28 rfl) (fun r6 z6 g6 => ?_)
      obtain ⟨ga6, gb6⟩ := g6
      rw [gb6]
      subst ga6
      have hbl6 : blen (K 0) ≤ 2240 := blen_le (WN.le hwk5)
      show V X _ w _ _ σ [.int (iI (((blen (K 0) : Nat) : Int)))]
      refine v_iconst hX (atL dAX6_taste_0 29 rfl) ?_
      refine v_isub hX (iI_sub _ _) (atL dAX6_taste_0 30 rfl) ?_
      rw [show ((((blen (K 0) : Nat) : Int)) - 1) = ((blen (K 0) - 1 : Nat) : Int) from (by omega)]
      refine v_istore hX (lv' := [(9, .int (iI (((blen (K 0) - 1 : Nat) : Int)))), (8, .ref (w.1 1 sp3)), (7, .ref (w.1 1 sp2)), (6, .ref (w.1 5 kx)), (0, .ref (w.1 0 0)), (1, .int (iI (p0))), (2, .int (iI (p1))), (3, .int (iI (p2))), (4, .int (iI (p3))), (5, .int (iI ((xx : Int))))]) (Nat.le_of_ble_eq_true rfl) rfl (atL dAX6_taste_0 31 rfl) ?_
      refine v_iload hX 0 rfl (atL dAX6_taste_0 32 rfl) ?_
      refine v_callS hX (As := [.int (iI (((blen (K 0) - 1 : Nat) : Int)))]) (rest := []) (c_X3_bytesOf (xl X) w σ (blen (K 0) - 1) (by omega)) lk_X6_264 rfl (by rw [hR]; exact ⟨Nat.le_of_ble_eq_true rfl, Nat.le_of_ble_eq_true rfl⟩) (by rw [hR]; exact ⟨Nat.le_of_ble_eq_true rfl, Nat.le_of_ble_eq_true rfl⟩) rfl (Nat.le_of_ble_eq_true rfl) (atL dAX6_taste_0 33 rfl) (fun r7 z7 g7 => ?_)
      obtain ⟨ga7, gb7⟩ := g7
      rw [gb7]
      subst ga7
      show V X _ w _ _ σ [.int (iI (((rB (blen (K 0) - 1) : Nat) : Int)))]
      refine v_iload_n hX 6 rfl (atL dAX6_taste_0 34 rfl) ?_
      refine v_callS hX (As := [.int (iI (p1))]) (rest := [.int (iI (((rB (blen (K 0) - 1) : Nat) : Int)))]) (c_X1_lengthOf (xl X) w σ p1 hp1) lk_X6_224 rfl (by rw [hR]; exact ⟨Nat.le_of_ble_eq_true rfl, Nat.le_of_ble_eq_true rfl⟩) (by rw [hR]; exact ⟨Nat.le_of_ble_eq_true rfl, Nat.le_of_ble_eq_true rfl⟩) rfl (Nat.le_of_ble_eq_true rfl) (atL dAX6_taste_0 35 rfl) (fun r8 z8 g8 => ?_)
      obtain ⟨ga8, gb8⟩ := g8
      rw [gb8]
      subst ga8
      show V X _ w _ _ σ [.int (iI ((hl p1 : Int))), .int (iI (((rB (blen (K 0) - 1) : Nat) : Int)))]
      refine v_iload hX 9 rfl (atL dAX6_taste_0 36 rfl) ?_
      refine v_iadd hX (iI_add _ _) (atL dAX6_taste_0 37 rfl) ?_
      refine v_iconst hX (atL dAX6_taste_0 38 rfl) ?_
      refine v_iadd hX (iI_add _ _) (atL dAX6_taste_0 39 rfl) ?_
      refine v_icmp_lt hX ⟨by omega, by omega⟩ ⟨by omega, by omega⟩ (tgt := 93) (atL dAX6_taste_0 40 rfl) (by decide) (fun h78 => ?_) (fun h78 => ?_)
      · refine v_iconst hX (atL dAX6_taste_0 47 rfl) ?_
        exact v_iret hX (atL dAX6_taste_0 48 rfl) (hret _ _ ⟨A, by unfold f_taste; simp only [htk, htsp2, htsp3, hKe, Int.toNat_natCast]; rw [if_neg (by omega), if_neg (by omega), if_neg (fun c => absurd c.1.1 (by omega))], hS, FM.rf⟩ _ (Nat.le_of_ble_eq_true rfl) (Nat.le_of_ble_eq_true rfl))
      · refine v_aload_n hX 4 rfl (atL dAX6_taste_0 41 rfl) ?_
        refine v_aload hX 3 rfl (atL dAX6_taste_0 42 rfl) ?_
        refine v_iconst hX (atL dAX6_taste_0 43 rfl) ?_
        refine v_aload hX 1 rfl (atL dAX6_taste_0 44 rfl) ?_
        refine v_callV hX (As := [.ref (w.1 5 kx), .int (iI (0)), .ref (w.1 1 sp3)]) (rest := []) (c_X6_turnWholeRow (xl X) w σ hk0 hA hD kx hkv P K hK 0 (by omega) sp3 hvsp3 (by omega) (A.1 sp3) hrsp3 (by rw [hlsp3]; omega)) lk_X6_235 hk0 (fun _ => rfl) rfl rfl rfl (by rw [hR]; exact ⟨Nat.le_of_ble_eq_true rfl, Nat.le_of_ble_eq_true rfl⟩) (by rw [hR]; exact ⟨Nat.le_of_ble_eq_true rfl, Nat.le_of_ble_eq_true rfl⟩) rfl (Nat.le_of_ble_eq_true rfl) (atL dAX6_taste_0 45 rfl) (fun r9 s9 e9 => ?_)
        obtain ⟨gc9, gA9, gD9, gF9⟩ := e9
        have gd9 : r9 = 0 ∨ r9 = 1 := by rcases gc9 with q | q <;> omega
        have hr9_sp2 := hrsp2.frH gF9 (by omega) (by omega)
        have hr9_sp3 := hrsp3.frH gF9 (by omega) (by omega)
        have hc9_400 := gF9 4 0 (Or.inr (Or.inr (Or.inl ⟨by omega, by omega⟩))) (fun q => by omega)
        have hc9_5kx0 := gF9 5 kx (Or.inr (Or.inr (Or.inl ⟨by omega, by omega⟩))) (fun q => by omega)
        have hF9 := (FH.rf : FH 99 σ σ).tr2 (gF9.mono (t := 99) (by omega))
        show V X _ w _ _ s9 [.int (iI (r9))]
        refine v_if_ne hX ⟨by omega, by omega⟩ (tgt := 95) (atL dAX6_taste_0 46 rfl) (by decide) (fun h90 => ?_) (fun h90 => ?_)
        · have hr26 : RW s9 26 (tn K 0 (A.1 sp3)) := (gc9.resolve_right (fun q => by omega)).2.2.2
          have hw26 : wr_ K (A.1 sp3) := ⟨(gc9.resolve_right (fun q => by omega)).2.1, (gc9.resolve_right (fun q => by omega)).2.2.1⟩
          refine v_aload_n hX 4 rfl (atL dAX6_taste_0 49 rfl) ?_
          refine gf_X6_51 hX hk0 (atL dAX6_taste_0 50 rfl) ?_
          refine v_aload_n hX 4 rfl (atL dAX6_taste_0 51 rfl) ?_
          refine gf_X6_58 hX hk0 (atL dAX6_taste_0 52 rfl) ?_
          refine v_iload hX 0 rfl (atL dAX6_taste_0 53 rfl) ?_
          refine v_iload_n hX 6 rfl (atL dAX6_taste_0 54 rfl) ?_
          refine v_aload hX 2 rfl (atL dAX6_taste_0 55 rfl) ?_
          refine v_iload hX 9 rfl (atL dAX6_taste_0 56 rfl) ?_
          refine v_callV hX (As := [.ref (w.1 1 26), .int (iI (((blen (K 0) - 1 : Nat) : Int))), .int (iI (p1)), .ref (w.1 1 sp2), .int (iI ((xx : Int)))]) (rest := []) (c_X3_tasteFrom (xl X) w s9 (hH 10 0 (by simp [mn, tp])) (hH 1 26 (by simp [mn, tp])) gA9 (blen (K 0) - 1) p1 hp1 (tn K 0 (A.1 sp3)) hr26 (by rw [tn_len]; omega) sp2 hvsp2 (by omega) (A.1 sp2) hr9_sp2 xx (by omega)) lk_X6_273 (hH 10 0 (by simp [mn, tp])) (fun _ => rfl) rfl rfl rfl (by rw [hR]; exact ⟨Nat.le_of_ble_eq_true rfl, Nat.le_of_ble_eq_true rfl⟩) (by rw [hR]; exact ⟨Nat.le_of_ble_eq_true rfl, Nat.le_of_ble_eq_true rfl⟩) rfl (Nat.le_of_ble_eq_true rfl) (atL dAX6_taste_0 57 rfl) (fun r10 s10 e10 => ?_)
          obtain ⟨gc10, hB10, hf10⟩ := e10
          have gd10 : r10 = 0 ∨ r10 = 1 := by rcases gc10 with q | q <;> omega
          have hA10 := hB10
          have hD10 := gD9.fr hf10 (by simp [SP])
          have hr10_sp2 := hr9_sp2.fr hf10 (by simp [SP] <;> omega) (by simp [SP] <;> omega)
          have hr10_sp3 := hr9_sp3.fr hf10 (by simp [SP] <;> omega) (by simp [SP] <;> omega)
          have hr10_26 := hr26.fr hf10 (by simp [SP] <;> omega) (by simp [SP] <;> omega)
          have hc10_400 := hf10 4 0 (by simp [SP] <;> omega)
          have hc10_5kx0 := hf10 5 kx (by simp [SP] <;> omega)
          have hF10 := hF9.tr hf10 (by simp [Hk, SP] <;> omega)
          show V X _ w _ _ s10 [.int (iI (r10))]
          refine v_if_eq hX ⟨by omega, by omega⟩ (tgt := 120) (atL dAX6_taste_0 58 rfl) (by decide) (fun h113 => ?_) (fun h113 => ?_)
          · refine v_iconst hX (atL dAX6_taste_1 1 rfl) ?_
            exact v_iret hX (atL dAX6_taste_1 2 rfl) (hret _ _ ⟨A, by unfold f_taste; simp only [htk, htsp2, htsp3, hKe, Int.toNat_natCast]; rw [if_neg (by omega), if_neg (by omega), if_neg (fun c => gc10.f h113 c.2)], hS.keep hF10 hA10 hD10, hF10.fm⟩ _ (Nat.le_of_ble_eq_true rfl) (Nat.le_of_ble_eq_true rfl))
          · refine v_iconst hX (atL dAX6_taste_0 59 rfl) ?_
            refine v_goto hX (tgt := 121) (atL dAX6_taste_1 0 rfl) (by decide) ?_
            exact v_iret hX (atL dAX6_taste_1 2 rfl) (hret _ _ ⟨A, by unfold f_taste; simp only [htk, htsp2, htsp3, hKe, Int.toNat_natCast]; rw [if_neg (by omega), if_neg (by omega), if_pos ⟨⟨by omega, hw26⟩, gc10.t h113⟩], hS.keep hF10 hA10 hD10, hF10.fm⟩ _ (Nat.le_of_ble_eq_true rfl) (Nat.le_of_ble_eq_true rfl))
        · refine v_iconst hX (atL dAX6_taste_0 47 rfl) ?_
          exact v_iret hX (atL dAX6_taste_0 48 rfl) (hret _ _ ⟨A, by unfold f_taste; simp only [htk, htsp2, htsp3, hKe, Int.toNat_natCast]; rw [if_neg (by omega), if_neg (by omega), if_neg (fun c => (gc9.resolve_left (fun q => by omega)).2 c.1.2)], hS.keep hF9 gA9 gD9, hF9.fm⟩ _ (Nat.le_of_ble_eq_true rfl) (Nat.le_of_ble_eq_true rfl))
    · exact v_throwSW hX hst wd_317 xi_A (List.mem_of_getElem? (i := 10) rfl) xg_A xl_A xn_A (by decide +kernel) (atL dAX6_taste_0 20 rfl) (atL dAX6_taste_0 21 rfl) (atL dAX6_taste_0 22 rfl) (atL dAX6_taste_0 23 rfl) (atL dAX6_taste_0 24 rfl) (by rw [hR]; exact ⟨Nat.le_of_ble_eq_true rfl, Nat.le_of_ble_eq_true rfl⟩) (by rw [hR]; exact ⟨Nat.le_of_ble_eq_true rfl, Nat.le_of_ble_eq_true rfl⟩) (hx _ (Or.inr ⟨rfl, by unfold f_taste; rw [if_neg (by omega), if_pos (by omega)]⟩) _ (Nat.le_of_ble_eq_true rfl) (Nat.le_of_ble_eq_true rfl))
