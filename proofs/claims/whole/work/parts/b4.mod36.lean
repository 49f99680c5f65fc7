/-- so far the lists are the same, or not -/
def EQd (F G : List Nat) (j : Nat) (v : Int) : Prop := (v = 1 ∧ ∀ q, q < j → F.getD q 0 = G.getD q 0) ∨ (v = 0 ∧ ¬ ∀ q, q < j → F.getD q 0 = G.getD q 0)
theorem EQd.r {F G : List Nat} {j : Nat} {v : Int} (h : EQd F G j v) : v = 0 ∨ v = 1 := by
  rcases h with ⟨h, -⟩ | ⟨h, -⟩
  · exact Or.inr h
  · exact Or.inl h
theorem EQd.z {F G : List Nat} : EQd F G 0 1 := Or.inl ⟨rfl, fun q hq => absurd hq (by omega)⟩
theorem EQd.s1 {F G : List Nat} {j : Nat} {v : Int} (h : EQd F G j v) (hv : v ≠ 0) (e : F.getD j 0 = G.getD j 0) : EQd F G (j + 1) 1 := by
  rcases h with ⟨h, g⟩ | ⟨h, g⟩
  · refine Or.inl ⟨rfl, fun q hq => ?_⟩
    by_cases c : q = j
    · rw [c]; exact e
    · exact g q (by omega)
  · exact absurd h hv
theorem EQd.s0 {F G : List Nat} {j : Nat} {v : Int} (h : EQd F G j v) (hv : v = 0) : EQd F G (j + 1) 0 := by
  rcases h with ⟨h, g⟩ | ⟨h, g⟩
  · rw [h] at hv; exact absurd hv (by decide)
  · exact Or.inr ⟨rfl, fun q => g (fun x hx => q x (by omega))⟩
theorem EQd.n {F G : List Nat} {j : Nat} (e : F.getD j 0 ≠ G.getD j 0) : EQd F G (j + 1) 0 := Or.inr ⟨rfl, fun q => e (q j (by omega))⟩
theorem EQd.tf {F G : List Nat} {n : Nat} {v : Int} (h : EQd F G n v) (hF : F.length = n) (hG : G.length = n) : tf v (F = G) := by
  rcases h with ⟨h, g⟩ | ⟨h, g⟩
  · exact Or.inl ⟨h, list_ext (by omega) (fun j hj => g j (by omega))⟩
  · exact Or.inr ⟨h, fun e => g (fun q _ => by rw [e])⟩

set_option maxHeartbeats 1000000 in
set_option maxRecDepth 100000 in
theorem c_X8_sign [Gh] (l : Launch) (w : Wl) (σ : St) (hk0 : w.2 13 0) (hw19 : ∀ q, w.2 19 q → q < 4096) (A : Ab) (hM : HM σ A) (p0 : Int) (hp0 : rI p0) (p1 : Int) (hp1 : rI p1) (p2 : Int) (hp2 : rI p2) (p3 : Int) (hp3 : rI p3) : Cz l yX8_sign cX8_sign 6 (Option.some Jvm.ClassFile.FieldType.int) 7 176 (kap σ * 10360) (kap σ * 103600) wI [.ref (w.1 13 0), .int (iI (p0)), .int (iI (p1)), .int (iI (p2)), .int (iI (p3))] w σ (fun a σ' => ∃ A', f_sign A p0 p1 p2 p3 = (σ' 10 0 0, a, A') ∧ HM σ' A' ∧ FC σ σ') := by
  refine Cz.of (own := RX8) (lv := [(0, .ref (w.1 13 0)), (1, .int (iI (p0))), (2, .int (iI (p1))), (3, .int (iI (p2))), (4, .int (iI (p3)))]) (by decide +kernel) rfl (Nat.le_of_ble_eq_true rfl) rfl (fun X hX hxl hR hcl hret => ?_)
  subst hxl
  have hQ : ∀ q, (14, q) ∈ mn σ 13 0 → w.2 14 q := fun q h => hcl 13 0 hk0 (14, q) h
  have hQ5 : ∀ q, (14, q) ∈ mn σ 13 0 → w.2 15 q := fun q h => hcl 14 q (hQ q h) (15, q) (by simp [mn, tp])
  have hQ16 : ∀ q, (16, q) ∈ mn σ 13 0 → w.2 16 q := fun q h => hcl 13 0 hk0 (16, q) h
  have hp0a := hp0.1
  have hp0b := hp0.2
  have hp1a := hp1.1
  have hp1b := hp1.2
  have hp2a := hp2.1
  have hp2b := hp2.2
  have hp3a := hp3.1
  have hp3b := hp3.2
  refine v_aload_n hX 0 rfl (atL dAX8_sign_0 0 rfl) ?_
  refine v_iload_n hX 3 rfl (atL dAX8_sign_0 1 rfl) ?_
  refine v_iload hX 4 rfl (atL dAX8_sign_0 2 rfl) ?_
  refine v_iload hX 4 rfl (atL dAX8_sign_0 3 rfl) ?_
  refine v_callV hX (As := [.int (iI (p2)), .int (iI (p3)), .int (iI (p3))]) (rest := []) (c_X8_are (xl X) w σ hk0 p2 hp2 p3 hp3 p3 hp3) lk_X8_240 hk0 (fun _ => rfl) rfl rfl rfl (by rw [hR]; exact ⟨Nat.le_of_ble_eq_true rfl, Nat.le_of_ble_eq_true rfl⟩) (by rw [hR]; exact (ZI.z : ZI (kap σ) (0, 0) σ).b) rfl (Nat.le_of_ble_eq_true rfl) (atL dAX8_sign_0 4 rfl) (fun r1 s1 g1 => ?_)
  obtain ⟨gs1, ht1, hG1, hA1, hD1⟩ := are_use g1 FG.rf hM.2.1 hM.2.2
  have gd1 : r1 = 0 ∨ r1 = 1 := by rcases gs1 with q | q <;> omega
  have hz1 := (ZI.z : ZI (kap σ) (0, 0) σ).k (t := s1) (are_4 g1)
  show V X _ w _ _ s1 [.int (iI (r1))]
  refine v_if_eq hX ⟨by omega, by omega⟩ (tgt := 28) (atL dAX8_sign_0 5 rfl) (by decide) (fun h9 => ?_) (fun h9 => ?_)
  · refine v_iconst hX (atL dAX8_sign_0 14 rfl) ?_
    exact v_iret hX (atL dAX8_sign_0 15 rfl) ((hret _ _ ⟨A, by rw [show s1 10 0 0 = 1 by omega]; unfold f_sign; rw [if_pos (by omega)], hM.same hG1 hA1 hD1, hG1.fc⟩ _ hz1))
  · refine v_aload_n hX 0 rfl (atL dAX8_sign_0 6 rfl) ?_
    refine v_iload_n hX 1 rfl (atL dAX8_sign_0 7 rfl) ?_
    refine v_callV hX (As := [.int (iI (p0))]) (rest := []) (c_X8_isKey (xl X) w s1 hk0 p0 hp0 A.2.1 (hM.1.fg hG1).2.2.1 hM.1.2.2.2.1) lk_X8_370 hk0 (fun _ => rfl) rfl rfl rfl (by rw [hR]; exact ⟨Nat.le_of_ble_eq_true rfl, Nat.le_of_ble_eq_true rfl⟩) (by rw [hR]; exact hz1.b) rfl (Nat.le_of_ble_eq_true rfl) (atL dAX8_sign_0 8 rfl) (fun r2 s2 g2 => ?_)
    obtain ⟨gs2, ht2, hG2, hA2, hD2⟩ := iss_use g2 (by omega) hG1 hA1 hD1
    have gd2 : r2 = 0 ∨ r2 = 1 := by rcases gs2 with q | q <;> omega
    have hz2 := hz1.k (t := s2) (iss_4 g2)
    show V X _ w _ _ s2 [.int (iI (r2))]
    refine v_if_eq hX ⟨by omega, by omega⟩ (tgt := 28) (atL dAX8_sign_0 9 rfl) (by decide) (fun h17 => ?_) (fun h17 => ?_)
    · refine v_iconst hX (atL dAX8_sign_0 14 rfl) ?_
      exact v_iret hX (atL dAX8_sign_0 15 rfl) ((hret _ _ ⟨A, by rw [show s2 10 0 0 = 1 by omega]; unfold f_sign; rw [if_pos (by omega)], hM.same hG2 hA2 hD2, hG2.fc⟩ _ hz2))
    · refine v_aload_n hX 0 rfl (atL dAX8_sign_0 10 rfl) ?_
      refine v_iload_n hX 2 rfl (atL dAX8_sign_0 11 rfl) ?_
      refine v_callV hX (As := [.int (iI (p1))]) (rest := []) (c_X8_isHash (xl X) w s2 hk0 p1 hp1) lk_X8_342 hk0 (fun _ => rfl) rfl rfl rfl (by rw [hR]; exact ⟨Nat.le_of_ble_eq_true rfl, Nat.le_of_ble_eq_true rfl⟩) (by rw [hR]; exact hz2.b) rfl (Nat.le_of_ble_eq_true rfl) (atL dAX8_sign_0 12 rfl) (fun r3 s3 g3 => ?_)
      obtain ⟨gs3, ht3, hG3, hA3, hD3⟩ := ish_use g3 (by omega) hG2 hA2 hD2
      have gd3 : r3 = 0 ∨ r3 = 1 := by rcases gs3 with q | q <;> omega
      have hz3 := hz2.k (t := s3) (iss_4 g3)
      show V X _ w _ _ s3 [.int (iI (r3))]
      refine v_if_ne hX ⟨by omega, by omega⟩ (tgt := 30) (atL dAX8_sign_0 13 rfl) (by decide) (fun h25 => ?_) (fun h25 => ?_)
      · obtain ⟨sp2, rfl⟩ : ∃ q : Nat, p2 = (q : Int) := ⟨p2.toNat, by omega⟩
        obtain ⟨sp3, rfl⟩ : ∃ q : Nat, p3 = (q : Int) := ⟨p3.toNat, by omega⟩
        obtain ⟨lsp2, hlsp2⟩ : ∃ q, (A.1 sp2).length = q := ⟨_, rfl⟩
        have hqsp2 : lsp2 ≤ 256 := by rw [← hlsp2]; exact hM.1.len (by omega)
        have hbvsp2 : lb (rv (A.1 sp2)) 128 := rv_lb (hM.1.by (by omega)) (hM.1.len (by omega))
        obtain ⟨lsp3, hlsp3⟩ : ∃ q, (A.1 sp3).length = q := ⟨_, rfl⟩
        have hqsp3 : lsp3 ≤ 256 := by rw [← hlsp3]; exact hM.1.len (by omega)
        have hbvsp3 : lb (rv (A.1 sp3)) 128 := rv_lb (hM.1.by (by omega)) (hM.1.len (by omega))
        obtain ⟨kx, rfl⟩ : ∃ q : Nat, p0 = (q : Int) := ⟨p0.toNat, by omega⟩
        obtain ⟨P, hPe⟩ : ∃ q, A.2.2.1 kx = q := ⟨_, rfl⟩
        obtain ⟨K, hKe⟩ : ∃ q, A.2.2.2 kx = q := ⟨_, rfl⟩
        have hK : KM σ kx P K := by rw [← hPe, ← hKe]; exact hM.1.2.2.2.2 kx (by omega)
        have hk16 := hM.1.2.2.2.1
        have hPP := hK.1
        have hkb : ∀ j, j < P → lb (K j) 64 := fun j hj => by have := (hK.2.2.1 j hj).2.1; exact nby_lb this
        have hK0 := hK.2.2.2
        have hKn := (hK.2.2.1 0 (by omega)).2.1
        have hKn1 := nby_pos hK0
        have hKnb : nby (K 0) = (blen (K 0) + 7) / 8 := rfl
        have hblK := blen_pos hK0
        have hh : isH p1 := by omega
        have hhr : rI p1 := hp1
        have hlg := hl_ge p1
        have hl3 := hl_32 p1
        refine v_aload_n hX 0 rfl (atL dAX8_sign_0 16 rfl) ?_
        refine gf_X8_122 hX hk0 (atL dAX8_sign_0 17 rfl) ?_
        refine v_iload_n hX 1 rfl (atL dAX8_sign_0 18 rfl) ?_
        obtain ⟨ow, how⟩ : ∃ q : Int, (if P = 8 then 1 else 0) = q := ⟨_, rfl⟩
        have hwo : (ow = 1 ∧ P = 8) ∨ (ow = 0 ∧ P = 2) := by rcases hPP with e | e <;> subst e <;> simp at how <;> omega
        refine v_zald hX (r := iI (ow)) kx (hcl 13 0 hk0 (17, 0) (by simp [mn, tp])) (fun _ => rfl) rfl (show kx < 16 by omega) (by decide) (congrArg iI ((hK.fg hG3).2.1.trans how)) (atL dAX8_sign_0 19 rfl) ?_
        refine v_if_ne hX ⟨by omega, by omega⟩ (tgt := 42) (atL dAX8_sign_0 20 rfl) (by decide) (fun h36 => ?_) (fun h36 => ?_)
        · refine v_aload_n hX 0 rfl (atL dAX8_sign_0 23 rfl) ?_
          refine v_iload_n hX 1 rfl (atL dAX8_sign_0 24 rfl) ?_
          refine v_callV hX (As := [.int (iI ((kx : Int)))]) (rest := []) (c_X8_lengthOf (xl X) w s3 hk0 hA3 kx (by omega) P K (hK.fg hG3)) lk_X8_380 hk0 (fun _ => rfl) rfl rfl rfl (by rw [hR]; exact ⟨Nat.le_of_ble_eq_true rfl, Nat.le_of_ble_eq_true rfl⟩) (by rw [hR]; exact hz3.b) rfl (Nat.le_of_ble_eq_true rfl) (atL dAX8_sign_0 25 rfl) (fun r4 s4 e4 => ?_)
          obtain ⟨ga4, hw4, hf4⟩ := e4
          subst ga4
          have hA4 := hA3.one hf4 hw4
          have hG4 := hG3.fr hf4 rfl (by decide)
          have hD4 := hD3.fr hf4 (by decide) (by decide) (by decide)
          have ht4 : s4 10 0 0 = 0 := by rw [hf4 10 0 (by decide)]; omega
          have hz4 := hz3.k (t := s4) (by rw [hf4 10 0 (by decide)])
          show V X _ w _ _ s4 [.int (iI (((nby (K 0) : Nat) : Int)))]
          refine v_istore hX (lv' := [(5, .int (iI (((nby (K 0) : Nat) : Int)))), (0, .ref (w.1 13 0)), (1, .int (iI ((kx : Int)))), (2, .int (iI (p1))), (3, .int (iI ((sp2 : Int)))), (4, .int (iI ((sp3 : Int))))]) (Nat.le_of_ble_eq_true rfl) rfl (atL dAX8_sign_0 26 rfl) ?_
          refine v_iload hX 0 rfl (atL dAX8_sign_0 27 rfl) ?_
          refine v_bipush hX (by decide +kernel) (atL dAX8_sign_0 28 rfl) ?_
          refine v_iload_n hX 3 rfl (atL dAX8_sign_0 29 rfl) ?_
          refine v_callS hX (As := [.int (iI (p1))]) (rest := [.int (iI (19)), .int (iI (((nby (K 0) : Nat) : Int)))]) (c_X8_long0 (xl X) w s4 p1 hhr) lk_X8_351 rfl (by rw [hR]; exact ⟨Nat.le_of_ble_eq_true rfl, Nat.le_of_ble_eq_true rfl⟩) (by rw [hR]; exact hz4.b) rfl (Nat.le_of_ble_eq_true rfl) (atL dAX8_sign_0 30 rfl) (fun r5 z5 g5 => ?_)
          obtain ⟨ga5, gb5⟩ := g5
          rw [gb5]
          subst ga5
          show V X _ w _ _ s4 [.int (iI ((hl p1 : Int))), .int (iI (19)), .int (iI (((nby (K 0) : Nat) : Int)))]
          refine v_iadd hX (iI_add _ _) (atL dAX8_sign_0 31 rfl) ?_
          refine v_bipush hX (by decide +kernel) (atL dAX8_sign_0 32 rfl) ?_
          refine v_iadd hX (iI_add _ _) (atL dAX8_sign_0 33 rfl) ?_
          refine v_icmp_ge hX ⟨by omega, by omega⟩ ⟨by omega, by omega⟩ (tgt := 67) (atL dAX8_sign_0 34 rfl) (by decide) (fun h61 => ?_) (fun h61 => ?_)
          · refine v_aload_n hX 1 rfl (atL dAX8_sign_0 37 rfl) ?_
            refine v_iload_n hX 3 rfl (atL dAX8_sign_0 38 rfl) ?_
            refine v_iload_n hX 4 rfl (atL dAX8_sign_0 39 rfl) ?_
            refine v_iload hX 0 rfl (atL dAX8_sign_0 40 rfl) ?_
            refine v_callVM hX (As := [.int (iI (p1)), .int (iI ((sp2 : Int))), .int (iI (((nby (K 0) : Nat) : Int)))]) (rest := []) (c_X8_forms (xl X) w s4 hk0 hw19 A (hM.same hG4 hA4 hD4) (by omega) p1 hh sp2 (by omega) (nby (K 0)) (by omega) (by omega)) lk_X8_401 hk0 (fun _ => rfl) rfl rfl rfl (by rw [hR]; exact ⟨Nat.le_of_ble_eq_true rfl, Nat.le_of_ble_eq_true rfl⟩) (by rw [hR]; exact hz4) rfl (Nat.le_of_ble_eq_true rfl) (atL dAX8_sign_0 41 rfl) (fun _ s6 e6 => ?_)
            obtain ⟨hpd6, hg6, hA6, hD6, hc46, ht6⟩ := e6
            have hG6 := hG4.tr hg6
            have hz6 := hz4.d4 hc46
            have hM61 := (hM.same hG6 hA6 hD6).up1 hc46
            generalize (((0, 0) : Nat × Nat).1 + kap s4 * 10360, ((0, 0) : Nat × Nat).2 + kap s4 * 103600) = z6 at hz6 ⊢
            show V X _ w _ _ s6 []
            refine v_aload_n hX 1 rfl (atL dAX8_sign_0 42 rfl) ?_
            refine v_iload_n hX 2 rfl (atL dAX8_sign_0 43 rfl) ?_
            refine v_iconst hX (atL dAX8_sign_0 44 rfl) ?_
            refine v_iload hX 0 rfl (atL dAX8_sign_0 45 rfl) ?_
            refine v_iload hX 5 rfl (atL dAX8_sign_0 46 rfl) ?_
            refine v_callV hX (As := [.int (iI ((kx : Int))), .int (iI (2)), .int (iI (((nby (K 0) : Nat) : Int))), .int (iI ((sp3 : Int)))]) (rest := []) (letI : Gh := gh1; c_X8_padded (xl X) w s6 hk0 A hM61 (by omega) kx (by omega) P K (hK.fg hG6) 1 (by omega) (signL p1 (nby (K 0)) (A.1 sp2)) (nby (K 0)) (signL_len (by omega) : (signL p1 (nby (K 0)) (A.1 sp2)).length = nby (K 0)) hpd6 (signL_by : BY (signL p1 (nby (K 0)) (A.1 sp2))) (by omega) sp3 (by omega)) lk_X8_387 hk0 (fun _ => rfl) rfl rfl rfl (by rw [hR]; exact ⟨Nat.le_of_ble_eq_true rfl, Nat.le_of_ble_eq_true rfl⟩) (by rw [hR]; exact hz6.b) rfl (Nat.le_of_ble_eq_true rfl) (atL dAX8_sign_0 47 rfl) (fun r7 s7 e7 => ?_)
            show V X _ w _ _ s7 [.int (iI (r7))]
            exact v_iret hX (atL dAX8_sign_0 48 rfl) ((hret _ _ (by obtain ⟨e1, e2, e3, e4⟩ := e7; exact ⟨_, by rw [e2, e1]; unfold f_sign; simp only [Int.toNat_natCast, hPe, hKe]; rw [if_neg (by omega), if_neg (by omega), if_neg (by omega), if_neg (by omega)], e3.dn, hG6.fc.tr e4⟩) _ (hz6.k (by obtain ⟨e1, e2, e3, e4⟩ := e7; exact e3.c1.trans hc46.symm))))
          · refine v_bipush hX (by decide +kernel) (atL dAX8_sign_0 35 rfl) ?_
            exact v_iret hX (atL dAX8_sign_0 36 rfl) ((hret _ _ ⟨A, by rw [show s4 10 0 0 = 0 by omega]; unfold f_sign; simp only [Int.toNat_natCast, hPe, hKe]; rw [if_neg (by omega), if_neg (by omega), if_neg (by omega), if_pos (by omega)], hM.same hG4 hA4 hD4, hG4.fc⟩ _ hz4))
        · refine v_bipush hX (by decide +kernel) (atL dAX8_sign_0 21 rfl) ?_
          exact v_iret hX (atL dAX8_sign_0 22 rfl) ((hret _ _ ⟨A, by rw [show s3 10 0 0 = 0 by omega]; unfold f_sign; simp only [Int.toNat_natCast, hPe, hKe]; rw [if_neg (by omega), if_neg (by omega), if_pos (by omega)], hM.same hG3 hA3 hD3, hG3.fc⟩ _ hz3))
      · refine v_iconst hX (atL dAX8_sign_0 14 rfl) ?_
        exact v_iret hX (atL dAX8_sign_0 15 rfl) ((hret _ _ ⟨A, by rw [show s3 10 0 0 = 2 by omega]; unfold f_sign; rw [if_neg (by omega), if_pos (by omega)], hM.same hG3 hA3 hD3, hG3.fc⟩ _ hz3))

set_option maxHeartbeats 1000000 in
set_option maxRecDepth 100000 in
theorem c_X8_prove [Gh] (l : Launch) (w : Wl) (σ : St) (hk0 : w.2 13 0) (hw19 : ∀ q, w.2 19 q → q < 4096) (A : Ab) (hM : HM σ A) (p0 : Int) (hp0 : rI p0) (p1 : Int) (hp1 : rI p1) (p2 : Int) (hp2 : rI p2) (p3 : Int) (hp3 : rI p3) : Cz l yX8_prove cX8_prove 8 (Option.some Jvm.ClassFile.FieldType.int) 7 177 (kap σ * 10360) (kap σ * 103600) wI [.ref (w.1 13 0), .int (iI (p0)), .int (iI (p1)), .int (iI (p2)), .int (iI (p3))] w σ (fun a σ' => ∃ A', f_prove A p0 p1 p2 p3 = (σ' 10 0 0, a, A') ∧ HM σ' A' ∧ FC σ σ') := by
  refine Cz.of (own := RX8) (lv := [(0, .ref (w.1 13 0)), (1, .int (iI (p0))), (2, .int (iI (p1))), (3, .int (iI (p2))), (4, .int (iI (p3)))]) (by decide +kernel) rfl (Nat.le_of_ble_eq_true rfl) rfl (fun X hX hxl hR hcl hret => ?_)
  subst hxl
  have hQ : ∀ q, (14, q) ∈ mn σ 13 0 → w.2 14 q := fun q h => hcl 13 0 hk0 (14, q) h
  have hQ5 : ∀ q, (14, q) ∈ mn σ 13 0 → w.2 15 q := fun q h => hcl 14 q (hQ q h) (15, q) (by simp [mn, tp])
  have hQ16 : ∀ q, (16, q) ∈ mn σ 13 0 → w.2 16 q := fun q h => hcl 13 0 hk0 (16, q) h
  have hp0a := hp0.1
  have hp0b := hp0.2
  have hp1a := hp1.1
  have hp1b := hp1.2
  have hp2a := hp2.1
  have hp2b := hp2.2
  have hp3a := hp3.1
  have hp3b := hp3.2
  refine v_aload_n hX 0 rfl (atL dAX8_prove_0 0 rfl) ?_
  refine v_iload_n hX 3 rfl (atL dAX8_prove_0 1 rfl) ?_
  refine v_iload hX 4 rfl (atL dAX8_prove_0 2 rfl) ?_
  refine v_iload hX 4 rfl (atL dAX8_prove_0 3 rfl) ?_
  refine v_callV hX (As := [.int (iI (p2)), .int (iI (p3)), .int (iI (p3))]) (rest := []) (c_X8_are (xl X) w σ hk0 p2 hp2 p3 hp3 p3 hp3) lk_X8_240 hk0 (fun _ => rfl) rfl rfl rfl (by rw [hR]; exact ⟨Nat.le_of_ble_eq_true rfl, Nat.le_of_ble_eq_true rfl⟩) (by rw [hR]; exact (ZI.z : ZI (kap σ) (0, 0) σ).b) rfl (Nat.le_of_ble_eq_true rfl) (atL dAX8_prove_0 4 rfl) (fun r1 s1 g1 => ?_)
  obtain ⟨gs1, ht1, hG1, hA1, hD1⟩ := are_use g1 FG.rf hM.2.1 hM.2.2
  have gd1 : r1 = 0 ∨ r1 = 1 := by rcases gs1 with q | q <;> omega
  have hz1 := (ZI.z : ZI (kap σ) (0, 0) σ).k (t := s1) (are_4 g1)
  show V X _ w _ _ s1 [.int (iI (r1))]
  refine v_if_eq hX ⟨by omega, by omega⟩ (tgt := 28) (atL dAX8_prove_0 5 rfl) (by decide) (fun h9 => ?_) (fun h9 => ?_)
  · refine v_iconst hX (atL dAX8_prove_0 14 rfl) ?_
    exact v_iret hX (atL dAX8_prove_0 15 rfl) ((hret _ _ ⟨A, by rw [show s1 10 0 0 = 1 by omega]; unfold f_prove; rw [if_pos (by omega)], hM.same hG1 hA1 hD1, hG1.fc⟩ _ hz1))
  · refine v_aload_n hX 0 rfl (atL dAX8_prove_0 6 rfl) ?_
    refine v_iload_n hX 1 rfl (atL dAX8_prove_0 7 rfl) ?_
    refine v_callV hX (As := [.int (iI (p0))]) (rest := []) (c_X8_isKey (xl X) w s1 hk0 p0 hp0 A.2.1 (hM.1.fg hG1).2.2.1 hM.1.2.2.2.1) lk_X8_370 hk0 (fun _ => rfl) rfl rfl rfl (by rw [hR]; exact ⟨Nat.le_of_ble_eq_true rfl, Nat.le_of_ble_eq_true rfl⟩) (by rw [hR]; exact hz1.b) rfl (Nat.le_of_ble_eq_true rfl) (atL dAX8_prove_0 8 rfl) (fun r2 s2 g2 => ?_)
    obtain ⟨gs2, ht2, hG2, hA2, hD2⟩ := iss_use g2 (by omega) hG1 hA1 hD1
    have gd2 : r2 = 0 ∨ r2 = 1 := by rcases gs2 with q | q <;> omega
    have hz2 := hz1.k (t := s2) (iss_4 g2)
    show V X _ w _ _ s2 [.int (iI (r2))]
    refine v_if_eq hX ⟨by omega, by omega⟩ (tgt := 28) (atL dAX8_prove_0 9 rfl) (by decide) (fun h17 => ?_) (fun h17 => ?_)
    · refine v_iconst hX (atL dAX8_prove_0 14 rfl) ?_
      exact v_iret hX (atL dAX8_prove_0 15 rfl) ((hret _ _ ⟨A, by rw [show s2 10 0 0 = 1 by omega]; unfold f_prove; rw [if_pos (by omega)], hM.same hG2 hA2 hD2, hG2.fc⟩ _ hz2))
    · refine v_aload_n hX 0 rfl (atL dAX8_prove_0 10 rfl) ?_
      refine v_iload_n hX 2 rfl (atL dAX8_prove_0 11 rfl) ?_
      refine v_callV hX (As := [.int (iI (p1))]) (rest := []) (c_X8_isHash (xl X) w s2 hk0 p1 hp1) lk_X8_342 hk0 (fun _ => rfl) rfl rfl rfl (by rw [hR]; exact ⟨Nat.le_of_ble_eq_true rfl, Nat.le_of_ble_eq_true rfl⟩) (by rw [hR]; exact hz2.b) rfl (Nat.le_of_ble_eq_true rfl) (atL dAX8_prove_0 12 rfl) (fun r3 s3 g3 => ?_)
      obtain ⟨gs3, ht3, hG3, hA3, hD3⟩ := ish_use g3 (by omega) hG2 hA2 hD2
      have gd3 : r3 = 0 ∨ r3 = 1 := by rcases gs3 with q | q <;> omega
      have hz3 := hz2.k (t := s3) (iss_4 g3)
      show V X _ w _ _ s3 [.int (iI (r3))]
      refine v_if_ne hX ⟨by omega, by omega⟩ (tgt := 30) (atL dAX8_prove_0 13 rfl) (by decide) (fun h25 => ?_) (fun h25 => ?_)
      · obtain ⟨sp2, rfl⟩ : ∃ q : Nat, p2 = (q : Int) := ⟨p2.toNat, by omega⟩
        obtain ⟨sp3, rfl⟩ : ∃ q : Nat, p3 = (q : Int) := ⟨p3.toNat, by omega⟩
        obtain ⟨lsp2, hlsp2⟩ : ∃ q, (A.1 sp2).length = q := ⟨_, rfl⟩
        have hqsp2 : lsp2 ≤ 256 := by rw [← hlsp2]; exact hM.1.len (by omega)
        have hbvsp2 : lb (rv (A.1 sp2)) 128 := rv_lb (hM.1.by (by omega)) (hM.1.len (by omega))
        obtain ⟨lsp3, hlsp3⟩ : ∃ q, (A.1 sp3).length = q := ⟨_, rfl⟩
        have hqsp3 : lsp3 ≤ 256 := by rw [← hlsp3]; exact hM.1.len (by omega)
        have hbvsp3 : lb (rv (A.1 sp3)) 128 := rv_lb (hM.1.by (by omega)) (hM.1.len (by omega))
        obtain ⟨kx, rfl⟩ : ∃ q : Nat, p0 = (q : Int) := ⟨p0.toNat, by omega⟩
        obtain ⟨P, hPe⟩ : ∃ q, A.2.2.1 kx = q := ⟨_, rfl⟩
        obtain ⟨K, hKe⟩ : ∃ q, A.2.2.2 kx = q := ⟨_, rfl⟩
        have hK : KM σ kx P K := by rw [← hPe, ← hKe]; exact hM.1.2.2.2.2 kx (by omega)
        have hk16 := hM.1.2.2.2.1
        have hPP := hK.1
        have hkb : ∀ j, j < P → lb (K j) 64 := fun j hj => by have := (hK.2.2.1 j hj).2.1; exact nby_lb this
        have hK0 := hK.2.2.2
        have hKn := (hK.2.2.1 0 (by omega)).2.1
        have hKn1 := nby_pos hK0
        have hKnb : nby (K 0) = (blen (K 0) + 7) / 8 := rfl
        have hblK := blen_pos hK0
        have hh : isH p1 := by omega
        have hhr : rI p1 := hp1
        have hlg := hl_ge p1
        have hl3 := hl_32 p1
        refine v_aload_n hX 0 rfl (atL dAX8_prove_0 16 rfl) ?_
        refine v_iload_n hX 1 rfl (atL dAX8_prove_0 17 rfl) ?_
        refine v_callV hX (As := [.int (iI ((kx : Int)))]) (rest := []) (c_X8_lengthOf (xl X) w s3 hk0 hA3 kx (by omega) P K (hK.fg hG3)) lk_X8_380 hk0 (fun _ => rfl) rfl rfl rfl (by rw [hR]; exact ⟨Nat.le_of_ble_eq_true rfl, Nat.le_of_ble_eq_true rfl⟩) (by rw [hR]; exact hz3.b) rfl (Nat.le_of_ble_eq_true rfl) (atL dAX8_prove_0 18 rfl) (fun r4 s4 e4 => ?_)
        obtain ⟨ga4, hw4, hf4⟩ := e4
        subst ga4
        have hA4 := hA3.one hf4 hw4
        have hG4 := hG3.fr hf4 rfl (by decide)
        have hD4 := hD3.fr hf4 (by decide) (by decide) (by decide)
        have ht4 : s4 10 0 0 = 0 := by rw [hf4 10 0 (by decide)]; omega
        have hz4 := hz3.k (t := s4) (by rw [hf4 10 0 (by decide)])
        show V X _ w _ _ s4 [.int (iI (((nby (K 0) : Nat) : Int)))]
        refine v_istore hX (lv' := [(5, .int (iI (((nby (K 0) : Nat) : Int)))), (0, .ref (w.1 13 0)), (1, .int (iI ((kx : Int)))), (2, .int (iI (p1))), (3, .int (iI ((sp2 : Int)))), (4, .int (iI ((sp3 : Int))))]) (Nat.le_of_ble_eq_true rfl) rfl (atL dAX8_prove_0 19 rfl) ?_
        refine v_iload hX 0 rfl (atL dAX8_prove_0 20 rfl) ?_
        refine v_bipush hX (by decide +kernel) (atL dAX8_prove_0 21 rfl) ?_
        refine v_iload_n hX 3 rfl (atL dAX8_prove_0 22 rfl) ?_
        refine v_callS hX (As := [.int (iI (p1))]) (rest := [.int (iI (19)), .int (iI (((nby (K 0) : Nat) : Int)))]) (c_X8_long0 (xl X) w s4 p1 hhr) lk_X8_351 rfl (by rw [hR]; exact ⟨Nat.le_of_ble_eq_true rfl, Nat.le_of_ble_eq_true rfl⟩) (by rw [hR]; exact hz4.b) rfl (Nat.le_of_ble_eq_true rfl) (atL dAX8_prove_0 23 rfl) (fun r5 z5 g5 => ?_)
        obtain ⟨ga5, gb5⟩ := g5
        rw [gb5]
        subst ga5
        show V X _ w _ _ s4 [.int (iI ((hl p1 : Int))), .int (iI (19)), .int (iI (((nby (K 0) : Nat) : Int)))]
        refine v_iadd hX (iI_add _ _) (atL dAX8_prove_0 24 rfl) ?_
        refine v_bipush hX (by decide +kernel) (atL dAX8_prove_0 25 rfl) ?_
        refine v_iadd hX (iI_add _ _) (atL dAX8_prove_0 26 rfl) ?_
        refine v_icmp_ge hX ⟨by omega, by omega⟩ ⟨by omega, by omega⟩ (tgt := 55) (atL dAX8_prove_0 27 rfl) (by decide) (fun h49 => ?_) (fun h49 => ?_)
        · refine v_aload_n hX 1 rfl (atL dAX8_prove_0 30 rfl) ?_
          refine v_iload_n hX 3 rfl (atL dAX8_prove_0 31 rfl) ?_
          refine v_iload_n hX 4 rfl (atL dAX8_prove_0 32 rfl) ?_
          refine v_iload hX 0 rfl (atL dAX8_prove_0 33 rfl) ?_
          refine v_callVM hX (As := [.int (iI (p1)), .int (iI ((sp2 : Int))), .int (iI (((nby (K 0) : Nat) : Int)))]) (rest := []) (c_X8_forms (xl X) w s4 hk0 hw19 A (hM.same hG4 hA4 hD4) (by omega) p1 hh sp2 (by omega) (nby (K 0)) (by omega) (by omega)) lk_X8_401 hk0 (fun _ => rfl) rfl rfl rfl (by rw [hR]; exact ⟨Nat.le_of_ble_eq_true rfl, Nat.le_of_ble_eq_true rfl⟩) (by rw [hR]; exact hz4) rfl (Nat.le_of_ble_eq_true rfl) (atL dAX8_prove_0 34 rfl) (fun _ s6 e6 => ?_)
          obtain ⟨hpd6, hg6, hA6, hD6, hc46, ht6⟩ := e6
          have hG6 := hG4.tr hg6
          have hz6 := hz4.d4 hc46
          generalize (((0, 0) : Nat × Nat).1 + kap s4 * 10360, ((0, 0) : Nat × Nat).2 + kap s4 * 103600) = z6 at hz6 ⊢
          show V X _ w _ _ s6 []
          refine v_iconst hX (atL dAX8_prove_0 35 rfl) ?_
          refine v_istore hX (lv' := [(6, .int (iI (0))), (5, .int (iI (((nby (K 0) : Nat) : Int)))), (0, .ref (w.1 13 0)), (1, .int (iI ((kx : Int)))), (2, .int (iI (p1))), (3, .int (iI ((sp2 : Int)))), (4, .int (iI ((sp3 : Int))))]) (Nat.le_of_ble_eq_true rfl) rfl (atL dAX8_prove_0 36 rfl) ?_
          have loop7 : ∀ (d j : Nat) (t7 : St), j + d = nby (K 0) → t7 13 15 = cp (s6 13 15) 0 j (fun q => (((signL p1 (nby (K 0)) (A.1 sp2)).getD q 0 : Nat) : Int)) → Fr [(13, 15)] s6 t7 → V X z6 w 66 [(6, .int (iI ((j : Int)))), (5, .int (iI (((nby (K 0) : Nat) : Int)))), (0, .ref (w.1 13 0)), (1, .int (iI ((kx : Int)))), (2, .int (iI (p1))), (3, .int (iI ((sp2 : Int)))), (4, .int (iI ((sp3 : Int))))] t7 [] := by
            intro d
            induction d with
            | zero =>
              intro j t7 hj hc7 hf7
              have hjN : j = nby (K 0) := by omega
              subst j
              have hA7 := hA6.fp hf7 rfl
              have hG7 := hG6.fr hf7 rfl (by decide)
              have hD7 := hD6.fr hf7 (by decide) (by decide) (by decide)
              have ht7 : t7 10 0 0 = 0 := by rw [hf7 10 0 (by decide)]; omega
              have hal7_13 : AW (t7 13 13) 0 (signL p1 (nby (K 0)) (A.1 sp2)) := by rw [hf7 13 13 (by decide)]; exact hpd6
              have hc47 : t7 10 0 4 = 1 := Eq.trans (by rw [hf7 10 0 (by decide)]) hc46
              have hz7 := hz6.k (t := t7) (by rw [hf7 10 0 (by decide)])
              have hfm : AW (t7 13 15) 0 (signL p1 (nby (K 0)) (A.1 sp2)) := AW.of (fun q hq => by rw [(signL_len (by omega) : (signL p1 (nby (K 0)) (A.1 sp2)).length = nby (K 0))] at hq; rw [hc7]; unfold cp; rw [if_pos (by omega)]; rfl)
              refine v_iload hX 0 rfl (atL dAX8_prove_0 37 rfl) ?_
              refine v_iload hX 1 rfl (atL dAX8_prove_0 38 rfl) ?_
              refine v_icmp_ge hX ⟨by omega, by omega⟩ ⟨by omega, by omega⟩ (tgt := 93) (atL dAX8_prove_0 39 rfl) (by decide) (fun h70 => ?_) (fun h70 => absurd h70 (by omega))
              refine v_aload_n hX 2 rfl (atL dAX8_prove_0 50 rfl) ?_
              refine v_iload_n hX 3 rfl (atL dAX8_prove_0 51 rfl) ?_
              refine v_iconst hX (atL dAX8_prove_0 52 rfl) ?_
              refine v_iload hX 6 rfl (atL dAX8_prove_0 53 rfl) ?_
              refine v_callV hX (As := [.int (iI ((kx : Int))), .int (iI (1)), .int (iI ((sp3 : Int)))]) (rest := []) (c_X8_opened (xl X) w t7 hk0 A (hM.same hG7 hA7 hD7) (by omega) kx (by omega) P K (hK.fg hG7) 0 (by omega) sp3 (by omega)) lk_X8_391 hk0 (fun _ => rfl) rfl rfl rfl (by rw [hR]; exact ⟨Nat.le_of_ble_eq_true rfl, Nat.le_of_ble_eq_true rfl⟩) (by rw [hR]; exact hz7.b) rfl (Nat.le_of_ble_eq_true rfl) (atL dAX8_prove_0 54 rfl) (fun r8 s8 e8 => ?_)
              obtain ⟨gc8, hA8, hO8⟩ := e8
              have gd8 : r8 = 0 ∨ r8 = 1 := by rcases gc8 with q | q <;> omega
              have hG8 := FO.fg hG7 hO8
              have hD8 := FO.dg hD7 hO8
              have ht8 : s8 10 0 0 = 0 := by rw [hO8.2 0 (by decide)]; omega
              have hal8_15 : AW (s8 13 15) 0 (signL p1 (nby (K 0)) (A.1 sp2)) := by rw [hO8.1 13 15 (by decide)]; exact hfm
              have hc48 : s8 10 0 4 = 1 := Eq.trans (hO8.2 4 (by decide)) hc47
              have hz8 := hz7.k (t := s8) (hO8.2 4 (by decide))
              show V X _ w _ _ s8 [.int (iI (r8))]
              refine v_if_ne hX ⟨by omega, by omega⟩ (tgt := 106) (atL dAX8_prove_0 55 rfl) (by decide) (fun h101 => ?_) (fun h101 => ?_)
              · obtain ⟨-, hwr, hAW⟩ := gc8.resolve_right (fun q => by omega)
                obtain ⟨F, hF⟩ : ∃ q, tn K 0 (A.1 sp3) = q := ⟨_, rfl⟩
                rw [hF] at hAW
                have hFl : F.length = nby (K 0) := by rw [← hF]; exact tn_len
                have hFb : BY F := by rw [← hF]; exact be_by
                refine v_iconst hX (atL dAX8_prove_0 58 rfl) ?_
                refine v_istore hX (lv' := [(6, .int (iI (1))), (5, .int (iI (((nby (K 0) : Nat) : Int)))), (0, .ref (w.1 13 0)), (1, .int (iI ((kx : Int)))), (2, .int (iI (p1))), (3, .int (iI ((sp2 : Int)))), (4, .int (iI ((sp3 : Int))))]) (Nat.le_of_ble_eq_true rfl) rfl (atL dAX8_prove_0 59 rfl) ?_
                refine v_iconst hX (atL dAX8_prove_1 0 rfl) ?_
                refine v_istore hX (lv' := [(7, .int (iI (0))), (6, .int (iI (1))), (5, .int (iI (((nby (K 0) : Nat) : Int)))), (0, .ref (w.1 13 0)), (1, .int (iI ((kx : Int)))), (2, .int (iI (p1))), (3, .int (iI ((sp2 : Int)))), (4, .int (iI ((sp3 : Int))))]) (Nat.le_of_ble_eq_true rfl) rfl (atL dAX8_prove_1 1 rfl) ?_
                have loop9 : ∀ (d j : Nat) (fl : Int), j + d = nby (K 0) → EQd (signL p1 (nby (K 0)) (A.1 sp2)) F j fl → V X z6 w 112 [(6, .int (iI (fl))), (7, .int (iI ((j : Int)))), (5, .int (iI (((nby (K 0) : Nat) : Int)))), (0, .ref (w.1 13 0)), (1, .int (iI ((kx : Int)))), (2, .int (iI (p1))), (3, .int (iI ((sp2 : Int)))), (4, .int (iI ((sp3 : Int))))] s8 [] := by
                  intro d
                  induction d with
                  | zero =>
                    intro j fl hj hi
                    have hjN : j = nby (K 0) := by omega
                    subst j
                    have hfl := hi.r
                    have hte := hi.tf (signL_len (by omega) : (signL p1 (nby (K 0)) (A.1 sp2)).length = nby (K 0)) hFl
                    refine v_iload hX 1 rfl (atL dAX8_prove_1 2 rfl) ?_
                    refine v_iload hX 2 rfl (atL dAX8_prove_1 3 rfl) ?_
                    refine v_icmp_ge hX ⟨by omega, by omega⟩ ⟨by omega, by omega⟩ (tgt := 154) (atL dAX8_prove_1 4 rfl) (by decide) (fun h116 => ?_) (fun h116 => absurd h116 (by omega))
                    refine v_iload hX 0 rfl (atL dAX8_prove_1 22 rfl) ?_
                    refine v_if_eq hX ⟨by omega, by omega⟩ (tgt := 163) (atL dAX8_prove_1 23 rfl) (by decide) (fun h156 => ?_) (fun h156 => ?_)
                    · refine v_iconst hX (atL dAX8_prove_1 26 rfl) ?_
                      exact v_iret hX (atL dAX8_prove_1 27 rfl) ((hret _ _ ⟨A, by rw [show s8 10 0 0 = 0 by omega]; unfold f_prove; simp only [Int.toNat_natCast, hPe, hKe, hF]; rw [if_neg (by omega), if_neg (by omega), if_neg (by omega), if_neg (fun q => q hwr), if_neg (fun q => hte.f h156 q.symm)], hM.same hG8 hA8 hD8, hG8.fc⟩ _ hz8))
                    · refine v_iconst hX (atL dAX8_prove_1 24 rfl) ?_
                      refine v_goto hX (tgt := 164) (atL dAX8_prove_1 25 rfl) (by decide) ?_
                      exact v_iret hX (atL dAX8_prove_1 27 rfl) ((hret _ _ ⟨A, by rw [show s8 10 0 0 = 0 by omega]; unfold f_prove; simp only [Int.toNat_natCast, hPe, hKe, hF]; rw [if_neg (by omega), if_neg (by omega), if_neg (by omega), if_neg (fun q => q hwr), if_pos (hte.t h156).symm], hM.same hG8 hA8 hD8, hG8.fc⟩ _ hz8))
                  | succ d ih =>
                    intro j fl hj hi
                    have hfl := hi.r
                    refine v_iload hX 1 rfl (atL dAX8_prove_1 2 rfl) ?_
                    refine v_iload hX 2 rfl (atL dAX8_prove_1 3 rfl) ?_
                    refine v_icmp_ge hX ⟨by omega, by omega⟩ ⟨by omega, by omega⟩ (tgt := 154) (atL dAX8_prove_1 4 rfl) (by decide) (fun h116 => absurd h116 (by omega)) (fun h116 => ?_)
                    refine v_iload hX 0 rfl (atL dAX8_prove_1 5 rfl) ?_
                    refine v_if_eq hX ⟨by omega, by omega⟩ (tgt := 145) (atL dAX8_prove_1 6 rfl) (by decide) (fun h121 => ?_) (fun h121 => ?_)
                    · refine v_iconst hX (atL dAX8_prove_1 18 rfl) ?_
                      refine v_istore hX (lv' := [(6, .int (iI (0))), (7, .int (iI ((j : Int)))), (5, .int (iI (((nby (K 0) : Nat) : Int)))), (0, .ref (w.1 13 0)), (1, .int (iI ((kx : Int)))), (2, .int (iI (p1))), (3, .int (iI ((sp2 : Int)))), (4, .int (iI ((sp3 : Int))))]) (Nat.le_of_ble_eq_true rfl) rfl (atL dAX8_prove_1 19 rfl) ?_
                      refine v_iinc hX (lv' := [(7, .int (iI (((j : Int)) + 1))), (6, .int (iI (0))), (5, .int (iI (((nby (K 0) : Nat) : Int)))), (0, .ref (w.1 13 0)), (1, .int (iI ((kx : Int)))), (2, .int (iI (p1))), (3, .int (iI ((sp2 : Int)))), (4, .int (iI ((sp3 : Int))))]) 1 rfl (iI_add _ _) (Nat.le_of_ble_eq_true rfl) rfl (atL dAX8_prove_1 20 rfl) ?_
                      refine v_goto hX (tgt := 112) (atL dAX8_prove_1 21 rfl) (by decide) ?_
                      refine v_sub (lv' := [(6, .int (iI (0))), (7, .int (iI (((j : Int)) + 1))), (5, .int (iI (((nby (K 0) : Nat) : Int)))), (0, .ref (w.1 13 0)), (1, .int (iI ((kx : Int)))), (2, .int (iI (p1))), (3, .int (iI ((sp2 : Int)))), (4, .int (iI ((sp3 : Int))))]) [1, 0, 2, 3, 4, 5, 6, 7] rfl ?_
                      rw [show (j : Int) + 1 = ((j + 1 : Nat) : Int) by omega]
                      exact ih (j + 1) _ (by omega) (hi.s0 (by omega))
                    · refine v_aload_n hX 3 rfl (atL dAX8_prove_1 7 rfl) ?_
                      refine gf_X8_153 hX hk0 (atL dAX8_prove_1 8 rfl) ?_
                      refine v_iload hX 1 rfl (atL dAX8_prove_1 9 rfl) ?_
                      have hpv10 := hal8_15.get (j := j) (by rw [(signL_len (by omega) : (signL p1 (nby (K 0)) (A.1 sp2)).length = nby (K 0))]; omega)
                      have hpb10 := (signL_by : BY (signL p1 (nby (K 0)) (A.1 sp2))).get j
                      refine v_iald hX (r := iI ((((signL p1 (nby (K 0)) (A.1 sp2)).getD j 0 : Nat) : Int))) ((j)) (hQ16 15 (by simp [mn, tp])) (fun _ => rfl) (by omega) (show j < 128 by omega) (by decide) (congrArg iI hpv10) (atL dAX8_prove_1 10 rfl) ?_
                      refine v_aload_n hX 3 rfl (atL dAX8_prove_1 11 rfl) ?_
                      refine gf_X8_147 hX hk0 (atL dAX8_prove_1 12 rfl) ?_
                      refine v_iload hX 1 rfl (atL dAX8_prove_1 13 rfl) ?_
                      have hpv11 := hAW.get (j := j) (by rw [hFl]; omega)
                      have hpb11 := hFb.get j
                      refine v_iald hX (r := iI (((F.getD j 0 : Nat) : Int))) ((j)) (hQ16 13 (by simp [mn, tp])) (fun _ => rfl) (by omega) (show j < 600 by omega) (by decide) (congrArg iI hpv11) (atL dAX8_prove_1 14 rfl) ?_
                      refine v_icmp_ne hX ⟨by omega, by omega⟩ ⟨by omega, by omega⟩ (tgt := 145) (atL dAX8_prove_1 15 rfl) (by decide) (fun h138 => ?_) (fun h138 => ?_)
                      · refine v_iconst hX (atL dAX8_prove_1 18 rfl) ?_
                        refine v_istore hX (lv' := [(6, .int (iI (0))), (7, .int (iI ((j : Int)))), (5, .int (iI (((nby (K 0) : Nat) : Int)))), (0, .ref (w.1 13 0)), (1, .int (iI ((kx : Int)))), (2, .int (iI (p1))), (3, .int (iI ((sp2 : Int)))), (4, .int (iI ((sp3 : Int))))]) (Nat.le_of_ble_eq_true rfl) rfl (atL dAX8_prove_1 19 rfl) ?_
                        refine v_iinc hX (lv' := [(7, .int (iI (((j : Int)) + 1))), (6, .int (iI (0))), (5, .int (iI (((nby (K 0) : Nat) : Int)))), (0, .ref (w.1 13 0)), (1, .int (iI ((kx : Int)))), (2, .int (iI (p1))), (3, .int (iI ((sp2 : Int)))), (4, .int (iI ((sp3 : Int))))]) 1 rfl (iI_add _ _) (Nat.le_of_ble_eq_true rfl) rfl (atL dAX8_prove_1 20 rfl) ?_
                        refine v_goto hX (tgt := 112) (atL dAX8_prove_1 21 rfl) (by decide) ?_
                        refine v_sub (lv' := [(6, .int (iI (0))), (7, .int (iI (((j : Int)) + 1))), (5, .int (iI (((nby (K 0) : Nat) : Int)))), (0, .ref (w.1 13 0)), (1, .int (iI ((kx : Int)))), (2, .int (iI (p1))), (3, .int (iI ((sp2 : Int)))), (4, .int (iI ((sp3 : Int))))]) [1, 0, 2, 3, 4, 5, 6, 7] rfl ?_
                        rw [show (j : Int) + 1 = ((j + 1 : Nat) : Int) by omega]
                        exact ih (j + 1) _ (by omega) (EQd.n (by omega))
                      · refine v_iconst hX (atL dAX8_prove_1 16 rfl) ?_
                        refine v_goto hX (tgt := 146) (atL dAX8_prove_1 17 rfl) (by decide) ?_
                        refine v_istore hX (lv' := [(6, .int (iI (1))), (7, .int (iI ((j : Int)))), (5, .int (iI (((nby (K 0) : Nat) : Int)))), (0, .ref (w.1 13 0)), (1, .int (iI ((kx : Int)))), (2, .int (iI (p1))), (3, .int (iI ((sp2 : Int)))), (4, .int (iI ((sp3 : Int))))]) (Nat.le_of_ble_eq_true rfl) rfl (atL dAX8_prove_1 19 rfl) ?_
                        refine v_iinc hX (lv' := [(7, .int (iI (((j : Int)) + 1))), (6, .int (iI (1))), (5, .int (iI (((nby (K 0) : Nat) : Int)))), (0, .ref (w.1 13 0)), (1, .int (iI ((kx : Int)))), (2, .int (iI (p1))), (3, .int (iI ((sp2 : Int)))), (4, .int (iI ((sp3 : Int))))]) 1 rfl (iI_add _ _) (Nat.le_of_ble_eq_true rfl) rfl (atL dAX8_prove_1 20 rfl) ?_
                        refine v_goto hX (tgt := 112) (atL dAX8_prove_1 21 rfl) (by decide) ?_
                        refine v_sub (lv' := [(6, .int (iI (1))), (7, .int (iI (((j : Int)) + 1))), (5, .int (iI (((nby (K 0) : Nat) : Int)))), (0, .ref (w.1 13 0)), (1, .int (iI ((kx : Int)))), (2, .int (iI (p1))), (3, .int (iI ((sp2 : Int)))), (4, .int (iI ((sp3 : Int))))]) [1, 0, 2, 3, 4, 5, 6, 7] rfl ?_
                        rw [show (j : Int) + 1 = ((j + 1 : Nat) : Int) by omega]
                        exact ih (j + 1) _ (by omega) (hi.s1 (by omega) (by omega))
                refine v_sub (lv' := [(6, .int (iI (1))), (7, .int (iI (0))), (5, .int (iI (((nby (K 0) : Nat) : Int)))), (0, .ref (w.1 13 0)), (1, .int (iI ((kx : Int)))), (2, .int (iI (p1))), (3, .int (iI ((sp2 : Int)))), (4, .int (iI ((sp3 : Int))))]) [1, 0, 2, 3, 4, 5, 6, 7] rfl ?_
                exact loop9 (nby (K 0)) 0 1 (by omega) EQd.z
              · refine v_iconst hX (atL dAX8_prove_0 56 rfl) ?_
                exact v_iret hX (atL dAX8_prove_0 57 rfl) ((hret _ _ ⟨A, by rw [show s8 10 0 0 = 0 by omega]; unfold f_prove; simp only [Int.toNat_natCast, hPe, hKe]; rw [if_neg (by omega), if_neg (by omega), if_neg (by omega), if_pos (gc8.resolve_left (fun q => by omega)).2], hM.same hG8 hA8 hD8, hG8.fc⟩ _ hz8))
            | succ d ih =>
              intro j t7 hj hc7 hf7
              have hsj : t7 13 13 j = (((signL p1 (nby (K 0)) (A.1 sp2)).getD j 0 : Nat) : Int) := by rw [hf7 13 13 (by decide)]; exact hpd6.get (by rw [(signL_len (by omega) : (signL p1 (nby (K 0)) (A.1 sp2)).length = nby (K 0))]; omega)
              refine v_iload hX 0 rfl (atL dAX8_prove_0 37 rfl) ?_
              refine v_iload hX 1 rfl (atL dAX8_prove_0 38 rfl) ?_
              refine v_icmp_ge hX ⟨by omega, by omega⟩ ⟨by omega, by omega⟩ (tgt := 93) (atL dAX8_prove_0 39 rfl) (by decide) (fun h70 => absurd h70 (by omega)) (fun h70 => ?_)
              refine v_aload_n hX 2 rfl (atL dAX8_prove_0 40 rfl) ?_
              refine gf_X8_153 hX hk0 (atL dAX8_prove_0 41 rfl) ?_
              refine v_iload hX 0 rfl (atL dAX8_prove_0 42 rfl) ?_
              refine v_aload_n hX 2 rfl (atL dAX8_prove_0 43 rfl) ?_
              refine gf_X8_147 hX hk0 (atL dAX8_prove_0 44 rfl) ?_
              refine v_iload hX 0 rfl (atL dAX8_prove_0 45 rfl) ?_
              refine v_iald hX (r := iI ((((signL p1 (nby (K 0)) (A.1 sp2)).getD j 0 : Nat) : Int))) j (hQ16 13 (by simp [mn, tp])) (fun _ => rfl) rfl (show j < 600 by omega) (by decide) (congrArg iI hsj) (atL dAX8_prove_0 46 rfl) ?_
              refine v_iast hX (c := 13) ((0 + j)) (hQ16 15 (by simp [mn, tp])) (by decide) (fun _ _ => rfl) (by omega) (show 0 + j < 128 by omega) (by decide) (atL dAX8_prove_0 47 rfl) ?_
              refine v_iinc hX (lv' := [(6, .int (iI (((j : Int)) + 1))), (5, .int (iI (((nby (K 0) : Nat) : Int)))), (0, .ref (w.1 13 0)), (1, .int (iI ((kx : Int)))), (2, .int (iI (p1))), (3, .int (iI ((sp2 : Int)))), (4, .int (iI ((sp3 : Int))))]) 0 rfl (iI_add _ _) (Nat.le_of_ble_eq_true rfl) rfl (atL dAX8_prove_0 48 rfl) ?_
              refine v_goto hX (tgt := 66) (atL dAX8_prove_0 49 rfl) (by decide) ?_
              refine v_sub (lv' := [(6, .int (iI (((j : Int)) + 1))), (5, .int (iI (((nby (K 0) : Nat) : Int)))), (0, .ref (w.1 13 0)), (1, .int (iI ((kx : Int)))), (2, .int (iI (p1))), (3, .int (iI ((sp2 : Int)))), (4, .int (iI ((sp3 : Int))))]) [0, 1, 2, 3, 4, 5, 6] rfl ?_
              rw [show (j : Int) + 1 = ((j + 1 : Nat) : Int) by omega]
              exact ih (j + 1) _ (by omega) (cp_s hc7 rfl) (hf7.tr' (Fr.su (by simp)))
          refine v_sub (lv' := [(6, .int (iI (0))), (5, .int (iI (((nby (K 0) : Nat) : Int)))), (0, .ref (w.1 13 0)), (1, .int (iI ((kx : Int)))), (2, .int (iI (p1))), (3, .int (iI ((sp2 : Int)))), (4, .int (iI ((sp3 : Int))))]) [0, 1, 2, 3, 4, 5, 6] rfl ?_
          exact loop7 (nby (K 0)) 0 s6 (by omega) cp_0.symm Fr.rf
        · refine v_bipush hX (by decide +kernel) (atL dAX8_prove_0 28 rfl) ?_
          exact v_iret hX (atL dAX8_prove_0 29 rfl) ((hret _ _ ⟨A, by rw [show s4 10 0 0 = 0 by omega]; unfold f_prove; simp only [Int.toNat_natCast, hPe, hKe]; rw [if_neg (by omega), if_neg (by omega), if_pos (by omega)], hM.same hG4 hA4 hD4, hG4.fc⟩ _ hz4))
      · refine v_iconst hX (atL dAX8_prove_0 14 rfl) ?_
        exact v_iret hX (atL dAX8_prove_0 15 rfl) ((hret _ _ ⟨A, by rw [show s3 10 0 0 = 2 by omega]; unfold f_prove; rw [if_neg (by omega), if_pos (by omega)], hM.same hG3 hA3 hD3, hG3.fc⟩ _ hz3))
