theorem fillL_get {m f : List Nat} {q : Nat} : (fillL m f).getD q 0 = if q = 0 then 0 else if q = 1 then 2 else if q < 2 + f.length then f.getD (q - 2) 0 else if q = 2 + f.length then 0 else m.getD (q - (3 + f.length)) 0 := by
  unfold fillL
  simp only [gD_app, gD_one, List.length_append, List.length_cons, List.length_nil]
  repeat' split
  all_goals first | rfl | omega | (congr 1; omega) | (exfalso; omega)
theorem fillL_len {m f : List Nat} : (fillL m f).length = f.length + 3 + m.length := by
  unfold fillL
  simp only [List.length_append, List.length_cons, List.length_nil]
  omega
theorem fillL_by {m f : List Nat} (hm : BY m) (hf : BY f) : BY (fillL m f) := ((((BY.one (by omega)).app (BY.one (by omega))).app hf).app (BY.one (by omega))).app hm
theorem drop_take_all {L : List Nat} {a n : Nat} (h : L.length - a ≤ n) : (L.drop a).take n = L.drop a := List.take_of_length_le (by rw [List.length_drop]; exact h)

set_option maxHeartbeats 1000000 in
set_option maxRecDepth 100000 in
theorem c_X8_fill [Gh] (l : Launch) (w : Wl) (σ : St) (hk0 : w.2 13 0) (A : Ab) (hM : HM σ A) (p0 : Int) (hp0 : rI p0) (p1 : Int) (hp1 : rI p1) (p2 : Int) (hp2 : rI p2) (p3 : Int) (hp3 : rI p3) : Cn l yX8_fill cX8_fill 8 (Option.some Jvm.ClassFile.FieldType.int) 7 176 wI [.ref (w.1 13 0), .int (iI (p0)), .int (iI (p1)), .int (iI (p2)), .int (iI (p3))] w σ (fun a σ' => ∃ A', f_fill A p0 p1 p2 p3 = (σ' 10 0 0, a, A') ∧ HM σ' A' ∧ FC σ σ') := by
  refine Cn.of (own := RX8) (lv := [(0, .ref (w.1 13 0)), (1, .int (iI (p0))), (2, .int (iI (p1))), (3, .int (iI (p2))), (4, .int (iI (p3)))]) (by decide +kernel) rfl (Nat.le_of_ble_eq_true rfl) rfl (fun X hX hxl hR hcl hret => ?_)
  subst hxl
  have hQ : ∀ q, (14, q) ∈ mn σ 13 0 → w.2 14 q := fun q h => hcl 13 0 hk0 (14, q) h
  have hQ5 : ∀ q, (14, q) ∈ mn σ 13 0 → w.2 15 q := fun q h => hcl 14 q (hQ q h) (15, q) (by simp [mn, tp])
  have hQ16 : ∀ q, (16, q) ∈ mn σ 13 0 → w.2 16 q := fun q h => hcl 13 0 hk0 (16, q) h
  have hp0a := hp0.1
  have hp0b := hp0.2
  have hp1a := hp1.1
  have hp1b := hp1.2
  have hp2a := hp2.1
  have hp2b := hp2.2
  have hp3a := hp3.1
  have hp3b := hp3.2
  refine v_aload_n hX 0 rfl (atL dAX8_fill_0 0 rfl) ?_
  refine v_iload_n hX 2 rfl (atL dAX8_fill_0 1 rfl) ?_
  refine v_iload_n hX 3 rfl (atL dAX8_fill_0 2 rfl) ?_
  refine v_iload hX 4 rfl (atL dAX8_fill_0 3 rfl) ?_
  refine v_callV hX (As := [.int (iI (p1)), .int (iI (p2)), .int (iI (p3))]) (rest := []) (c_X8_are (xl X) w σ hk0 p1 hp1 p2 hp2 p3 hp3) lk_X8_240 hk0 (fun _ => rfl) rfl rfl rfl (by rw [hR]; exact ⟨Nat.le_of_ble_eq_true rfl, Nat.le_of_ble_eq_true rfl⟩) ⟨Nat.zero_le _, Nat.zero_le _⟩ rfl (Nat.le_of_ble_eq_true rfl) (atL dAX8_fill_0 4 rfl) (fun r1 s1 g1 => ?_)
  obtain ⟨gs1, ht1, hG1, hA1, hD1⟩ := are_use g1 FG.rf hM.2.1 hM.2.2
  have gd1 : r1 = 0 ∨ r1 = 1 := by rcases gs1 with q | q <;> omega
  show V X _ w _ _ s1 [.int (iI (r1))]
  refine v_if_eq hX ⟨by omega, by omega⟩ (tgt := 19) (atL dAX8_fill_0 5 rfl) (by decide) (fun h8 => ?_) (fun h8 => ?_)
  · refine v_iconst hX (atL dAX8_fill_0 10 rfl) ?_
    exact v_iret hX (atL dAX8_fill_0 11 rfl) (hret _ _ ⟨A, by rw [show s1 10 0 0 = 1 by omega]; unfold f_fill; rw [if_pos (by omega)], hM.same hG1 hA1 hD1, hG1.fc⟩)
  · refine v_aload_n hX 0 rfl (atL dAX8_fill_0 6 rfl) ?_
    refine v_iload_n hX 1 rfl (atL dAX8_fill_0 7 rfl) ?_
    refine v_callV hX (As := [.int (iI (p0))]) (rest := []) (c_X8_isKey (xl X) w s1 hk0 p0 hp0 A.2.1 (hM.1.fg hG1).2.2.1 hM.1.2.2.2.1) lk_X8_370 hk0 (fun _ => rfl) rfl rfl rfl (by rw [hR]; exact ⟨Nat.le_of_ble_eq_true rfl, Nat.le_of_ble_eq_true rfl⟩) ⟨Nat.zero_le _, Nat.zero_le _⟩ rfl (Nat.le_of_ble_eq_true rfl) (atL dAX8_fill_0 8 rfl) (fun r2 s2 g2 => ?_)
    obtain ⟨gs2, ht2, hG2, hA2, hD2⟩ := iss_use g2 (by omega) hG1 hA1 hD1
    have gd2 : r2 = 0 ∨ r2 = 1 := by rcases gs2 with q | q <;> omega
    show V X _ w _ _ s2 [.int (iI (r2))]
    refine v_if_ne hX ⟨by omega, by omega⟩ (tgt := 21) (atL dAX8_fill_0 9 rfl) (by decide) (fun h16 => ?_) (fun h16 => ?_)
    · obtain ⟨sp1, rfl⟩ : ∃ q : Nat, p1 = (q : Int) := ⟨p1.toNat, by omega⟩
      obtain ⟨sp2, rfl⟩ : ∃ q : Nat, p2 = (q : Int) := ⟨p2.toNat, by omega⟩
      obtain ⟨sp3, rfl⟩ : ∃ q : Nat, p3 = (q : Int) := ⟨p3.toNat, by omega⟩
      obtain ⟨lsp1, hlsp1⟩ : ∃ q, (A.1 sp1).length = q := ⟨_, rfl⟩
      have hqsp1 : lsp1 ≤ 256 := by rw [← hlsp1]; exact hM.1.len (by omega)
      have hbvsp1 : lb (rv (A.1 sp1)) 128 := rv_lb (hM.1.by (by omega)) (hM.1.len (by omega))
      obtain ⟨lsp2, hlsp2⟩ : ∃ q, (A.1 sp2).length = q := ⟨_, rfl⟩
      have hqsp2 : lsp2 ≤ 256 := by rw [← hlsp2]; exact hM.1.len (by omega)
      have hbvsp2 : lb (rv (A.1 sp2)) 128 := rv_lb (hM.1.by (by omega)) (hM.1.len (by omega))
      obtain ⟨lsp3, hlsp3⟩ : ∃ q, (A.1 sp3).length = q := ⟨_, rfl⟩
      have hqsp3 : lsp3 ≤ 256 := by rw [← hlsp3]; exact hM.1.len (by omega)
      have hbvsp3 : lb (rv (A.1 sp3)) 128 := rv_lb (hM.1.by (by omega)) (hM.1.len (by omega))
      obtain ⟨kx, rfl⟩ : ∃ q : Nat, p0 = (q : Int) := ⟨p0.toNat, by omega⟩
      obtain ⟨P, hPe⟩ : ∃ q, A.2.2.1 kx = q := ⟨_, rfl⟩
      obtain ⟨K, hKe⟩ : ∃ q, A.2.2.2 kx = q := ⟨_, rfl⟩
      have hK : KM σ kx P K := by rw [← hPe, ← hKe]; exact hM.1.2.2.2.2 kx (by omega)
      have hk16 := hM.1.2.2.2.1
      have hPP := hK.1
      have hkb : ∀ j, j < P → lb (K j) 64 := fun j hj => by have := (hK.2.2.1 j hj).2.1; exact nby_lb this
      have hK0 := hK.2.2.2
      have hKn := (hK.2.2.1 0 (by omega)).2.1
      have hKn1 := nby_pos hK0
      have hKnb : nby (K 0) = (blen (K 0) + 7) / 8 := rfl
      have hblK := blen_pos hK0
      refine v_aload_n hX 0 rfl (atL dAX8_fill_0 12 rfl) ?_
      refine v_iload_n hX 1 rfl (atL dAX8_fill_0 13 rfl) ?_
      refine v_callV hX (As := [.int (iI ((kx : Int)))]) (rest := []) (c_X8_lengthOf (xl X) w s2 hk0 hA2 kx (by omega) P K (hK.fg hG2)) lk_X8_380 hk0 (fun _ => rfl) rfl rfl rfl (by rw [hR]; exact ⟨Nat.le_of_ble_eq_true rfl, Nat.le_of_ble_eq_true rfl⟩) ⟨Nat.zero_le _, Nat.zero_le _⟩ rfl (Nat.le_of_ble_eq_true rfl) (atL dAX8_fill_0 14 rfl) (fun r3 s3 e3 => ?_)
      obtain ⟨ga3, hw3, hf3⟩ := e3
      subst ga3
      have hA3 := hA2.one hf3 hw3
      have hG3 := hG2.fr hf3 rfl (by decide)
      have hD3 := hD2.fr hf3 (by decide) (by decide) (by decide)
      have ht3 : s3 10 0 0 = 0 := by rw [hf3 10 0 (by decide)]; omega
      show V X _ w _ _ s3 [.int (iI (((nby (K 0) : Nat) : Int)))]
      refine v_istore hX (lv' := [(5, .int (iI (((nby (K 0) : Nat) : Int)))), (0, .ref (w.1 13 0)), (1, .int (iI ((kx : Int)))), (2, .int (iI ((sp1 : Int)))), (3, .int (iI ((sp2 : Int)))), (4, .int (iI ((sp3 : Int))))]) (Nat.le_of_ble_eq_true rfl) rfl (atL dAX8_fill_0 15 rfl) ?_
      refine v_aload_n hX 1 rfl (atL dAX8_fill_0 16 rfl) ?_
      refine gf_X8_71 hX hk0 (atL dAX8_fill_0 17 rfl) ?_
      refine v_iload_n hX 3 rfl (atL dAX8_fill_0 18 rfl) ?_
      refine v_iald hX (r := iI (((lsp1 : Nat) : Int))) sp1 (hQ16 1 (by simp [mn, tp])) (fun _ => rfl) rfl (show sp1 < 24 by omega) (by decide) (congrArg iI (((hM.1.fg hG3).1 sp1 (by omega)).1.1.trans (by rw [hlsp1]))) (atL dAX8_fill_0 19 rfl) ?_
      refine v_istore hX (lv' := [(6, .int (iI (((lsp1 : Nat) : Int)))), (5, .int (iI (((nby (K 0) : Nat) : Int)))), (0, .ref (w.1 13 0)), (1, .int (iI ((kx : Int)))), (2, .int (iI ((sp1 : Int)))), (3, .int (iI ((sp2 : Int)))), (4, .int (iI ((sp3 : Int))))]) (Nat.le_of_ble_eq_true rfl) rfl (atL dAX8_fill_0 20 rfl) ?_
      refine v_iload hX 0 rfl (atL dAX8_fill_0 21 rfl) ?_
      refine v_iload hX 1 rfl (atL dAX8_fill_0 22 rfl) ?_
      refine v_bipush hX (by decide +kernel) (atL dAX8_fill_0 23 rfl) ?_
      refine v_isub hX (iI_sub _ _) (atL dAX8_fill_0 24 rfl) ?_
      refine v_icmp_le hX ⟨by omega, by omega⟩ ⟨by omega, by omega⟩ (tgt := 49) (atL dAX8_fill_0 25 rfl) (by decide) (fun h43 => ?_) (fun h43 => ?_)
      · refine v_aload_n hX 2 rfl (atL dAX8_fill_0 28 rfl) ?_
        refine gf_X8_71 hX hk0 (atL dAX8_fill_0 29 rfl) ?_
        refine v_iload_n hX 5 rfl (atL dAX8_fill_0 30 rfl) ?_
        refine v_iald hX (r := iI (((lsp2 : Nat) : Int))) sp2 (hQ16 1 (by simp [mn, tp])) (fun _ => rfl) rfl (show sp2 < 24 by omega) (by decide) (congrArg iI (((hM.1.fg hG3).1 sp2 (by omega)).1.1.trans (by rw [hlsp2]))) (atL dAX8_fill_0 31 rfl) ?_
        refine v_iload hX 1 rfl (atL dAX8_fill_0 32 rfl) ?_
        refine v_iconst hX (atL dAX8_fill_0 33 rfl) ?_
        refine v_isub hX (iI_sub _ _) (atL dAX8_fill_0 34 rfl) ?_
        refine v_iload hX 0 rfl (atL dAX8_fill_0 35 rfl) ?_
        refine v_isub hX (iI_sub _ _) (atL dAX8_fill_0 36 rfl) ?_
        refine v_icmp_eq hX ⟨by omega, by omega⟩ ⟨by omega, by omega⟩ (tgt := 68) (atL dAX8_fill_0 37 rfl) (by decide) (fun h62 => ?_) (fun h62 => ?_)
        · refine v_iconst hX (atL dAX8_fill_0 40 rfl) ?_
          refine v_istore hX (lv' := [(7, .int (iI (0))), (6, .int (iI (((lsp1 : Nat) : Int)))), (5, .int (iI (((nby (K 0) : Nat) : Int)))), (0, .ref (w.1 13 0)), (1, .int (iI ((kx : Int)))), (2, .int (iI ((sp1 : Int)))), (3, .int (iI ((sp2 : Int)))), (4, .int (iI ((sp3 : Int))))]) (Nat.le_of_ble_eq_true rfl) rfl (atL dAX8_fill_0 41 rfl) ?_
          have loop4 : ∀ (d j : Nat), j + d = lsp2 → (∀ q, q < j → (A.1 sp2).getD q 0 ≠ 0) → V X (0, 0) w 71 [(7, .int (iI ((j : Int)))), (6, .int (iI (((lsp1 : Nat) : Int)))), (5, .int (iI (((nby (K 0) : Nat) : Int)))), (0, .ref (w.1 13 0)), (1, .int (iI ((kx : Int)))), (2, .int (iI ((sp1 : Int)))), (3, .int (iI ((sp2 : Int)))), (4, .int (iI ((sp3 : Int))))] s3 [] := by
            intro d
            induction d with
            | zero =>
              intro j hj hi
              have hjN : j = lsp2 := by omega
              subst j
              have hrun : run (fun x => decide (x ≠ 0)) (A.1 sp2) 0 = lsp2 := run_eq (by rw [hlsp2]; omega) (fun q _ hq => by simpa using hi q (by omega)) (Or.inl (by rw [hlsp2]; omega))
              rw [← hlsp2] at hrun
              refine v_iload hX 0 rfl (atL dAX8_fill_0 42 rfl) ?_
              refine v_iload hX 2 rfl (atL dAX8_fill_0 43 rfl) ?_
              refine v_iconst hX (atL dAX8_fill_0 44 rfl) ?_
              refine v_isub hX (iI_sub _ _) (atL dAX8_fill_0 45 rfl) ?_
              refine v_iload hX 1 rfl (atL dAX8_fill_0 46 rfl) ?_
              refine v_isub hX (iI_sub _ _) (atL dAX8_fill_0 47 rfl) ?_
              refine v_icmp_ge hX ⟨by omega, by omega⟩ ⟨by omega, by omega⟩ (tgt := 108) (atL dAX8_fill_0 48 rfl) (by decide) (fun h80 => ?_) (fun h80 => absurd h80 (by omega))
              refine v_aload_n hX 3 rfl (atL dAX8_fill_1 2 rfl) ?_
              refine gf_X8_147 hX hk0 (atL dAX8_fill_1 3 rfl) ?_
              refine v_iconst hX (atL dAX8_fill_1 4 rfl) ?_
              refine v_iconst hX (atL dAX8_fill_1 5 rfl) ?_
              refine v_iast hX (c := 13) 0 (hQ16 13 (by simp [mn, tp])) (by decide) (fun _ _ => rfl) rfl (show 0 < 600 by omega) (by decide) (atL dAX8_fill_1 6 rfl) ?_
              refine v_aload_n hX 3 rfl (atL dAX8_fill_1 7 rfl) ?_
              refine gf_X8_147 hX hk0 (atL dAX8_fill_1 8 rfl) ?_
              refine v_iconst hX (atL dAX8_fill_1 9 rfl) ?_
              refine v_iconst hX (atL dAX8_fill_1 10 rfl) ?_
              refine v_iast hX (c := 13) 1 (hQ16 13 (by simp [mn, tp])) (by decide) (fun _ _ => rfl) rfl (show 1 < 600 by omega) (by decide) (atL dAX8_fill_1 11 rfl) ?_
              refine v_iconst hX (atL dAX8_fill_1 12 rfl) ?_
              refine v_istore hX (lv' := [(7, .int (iI (0))), (6, .int (iI (((lsp1 : Nat) : Int)))), (5, .int (iI (((nby (K 0) : Nat) : Int)))), (0, .ref (w.1 13 0)), (1, .int (iI ((kx : Int)))), (2, .int (iI ((sp1 : Int)))), (3, .int (iI ((sp2 : Int)))), (4, .int (iI ((sp3 : Int))))]) (Nat.le_of_ble_eq_true rfl) rfl (atL dAX8_fill_1 13 rfl) ?_
              obtain ⟨b5, hb5⟩ : ∃ q, q = (su (su s3 13 13 0 0) 13 13 1 2) := ⟨_, rfl⟩
              rw [← hb5]
              have hA5 : AN b5 := by rw [hb5]; exact ((hA3.s1 (by decide)).s1 (by decide))
              have hG5 : FG σ b5 := by rw [hb5]; exact ((hG3.sa rfl).sa rfl)
              have hD5 : DG b5 := by rw [hb5]; exact ((hD3.sa (by decide) (by decide)).sa (by decide) (by decide))
              have ht5 : b5 10 0 0 = 0 := by rw [hb5, su_c (by decide), su_c (by decide)]; omega
              have loop6 : ∀ (d j : Nat) (t6 : St), j + d = lsp2 → t6 13 13 = cp (b5 13 13) 2 j (fun q => (((A.1 sp2).getD q 0 : Nat) : Int)) → Fr [(13, 13)] b5 t6 → V X (0, 0) w 125 [(7, .int (iI ((j : Int)))), (6, .int (iI (((lsp1 : Nat) : Int)))), (5, .int (iI (((nby (K 0) : Nat) : Int)))), (0, .ref (w.1 13 0)), (1, .int (iI ((kx : Int)))), (2, .int (iI ((sp1 : Int)))), (3, .int (iI ((sp2 : Int)))), (4, .int (iI ((sp3 : Int))))] t6 [] := by
                intro d
                induction d with
                | zero =>
                  intro j t6 hj hc6 hf6
                  have hjN : j = lsp2 := by omega
                  subst j
                  have hA6 := hA5.fp hf6 rfl
                  have hG6 := hG5.fr hf6 rfl (by decide)
                  have hD6 := hD5.fr hf6 (by decide) (by decide) (by decide)
                  have ht6 : t6 10 0 0 = 0 := by rw [hf6 10 0 (by decide)]; omega
                  refine v_iload hX 0 rfl (atL dAX8_fill_1 14 rfl) ?_
                  refine v_iload hX 2 rfl (atL dAX8_fill_1 15 rfl) ?_
                  refine v_iconst hX (atL dAX8_fill_1 16 rfl) ?_
                  refine v_isub hX (iI_sub _ _) (atL dAX8_fill_1 17 rfl) ?_
                  refine v_iload hX 1 rfl (atL dAX8_fill_1 18 rfl) ?_
                  refine v_isub hX (iI_sub _ _) (atL dAX8_fill_1 19 rfl) ?_
                  refine v_icmp_ge hX ⟨by omega, by omega⟩ ⟨by omega, by omega⟩ (tgt := 165) (atL dAX8_fill_1 20 rfl) (by decide) (fun h134 => ?_) (fun h134 => absurd h134 (by omega))
                  refine v_aload_n hX 3 rfl (atL dAX8_fill_1 37 rfl) ?_
                  refine gf_X8_147 hX hk0 (atL dAX8_fill_1 38 rfl) ?_
                  refine v_iload hX 2 rfl (atL dAX8_fill_1 39 rfl) ?_
                  refine v_iload hX 1 rfl (atL dAX8_fill_1 40 rfl) ?_
                  refine v_isub hX (iI_sub _ _) (atL dAX8_fill_1 41 rfl) ?_
                  refine v_iconst hX (atL dAX8_fill_1 42 rfl) ?_
                  refine v_isub hX (iI_sub _ _) (atL dAX8_fill_1 43 rfl) ?_
                  refine v_iconst hX (atL dAX8_fill_1 44 rfl) ?_
                  refine v_iast hX (c := 13) ((nby (K 0) - lsp1 - 1)) (hQ16 13 (by simp [mn, tp])) (by decide) (fun _ _ => rfl) (by omega) (show _ < 600 by omega) (by decide) (atL dAX8_fill_1 45 rfl) ?_
                  refine v_iconst hX (atL dAX8_fill_1 46 rfl) ?_
                  refine v_istore hX (lv' := [(7, .int (iI (0))), (6, .int (iI (((lsp1 : Nat) : Int)))), (5, .int (iI (((nby (K 0) : Nat) : Int)))), (0, .ref (w.1 13 0)), (1, .int (iI ((kx : Int)))), (2, .int (iI ((sp1 : Int)))), (3, .int (iI ((sp2 : Int)))), (4, .int (iI ((sp3 : Int))))]) (Nat.le_of_ble_eq_true rfl) rfl (atL dAX8_fill_1 47 rfl) ?_
                  obtain ⟨b7, hb7⟩ : ∃ q, q = (su t6 13 13 ((nby (K 0) - lsp1 - 1)) 0) := ⟨_, rfl⟩
                  rw [← hb7]
                  have hA7 : AN b7 := by rw [hb7]; exact (hA6.s1 (by decide))
                  have hG7 : FG σ b7 := by rw [hb7]; exact (hG6.sa rfl)
                  have hD7 : DG b7 := by rw [hb7]; exact (hD6.sa (by decide) (by decide))
                  have ht7 : b7 10 0 0 = 0 := by rw [hb7, su_c (by decide)]; omega
                  have loop8 : ∀ (d j : Nat) (t8 : St), j + d = lsp1 → t8 13 13 = cp (b7 13 13) (nby (K 0) - lsp1) j (fun q => (((A.1 sp1).getD q 0 : Nat) : Int)) → Fr [(13, 13)] b7 t8 → V X (0, 0) w 181 [(7, .int (iI ((j : Int)))), (6, .int (iI (((lsp1 : Nat) : Int)))), (5, .int (iI (((nby (K 0) : Nat) : Int)))), (0, .ref (w.1 13 0)), (1, .int (iI ((kx : Int)))), (2, .int (iI ((sp1 : Int)))), (3, .int (iI ((sp2 : Int)))), (4, .int (iI ((sp3 : Int))))] t8 [] := by
                    intro d
                    induction d with
                    | zero =>
                      intro j t8 hj hc8 hf8
                      have hjN : j = lsp1 := by omega
                      subst j
                      have hA8 := hA7.fp hf8 rfl
                      have hG8 := hG7.fr hf8 rfl (by decide)
                      have hD8 := hD7.fr hf8 (by decide) (by decide) (by decide)
                      have ht8 : t8 10 0 0 = 0 := by rw [hf8 10 0 (by decide)]; omega
                      have hfl : (fillL (A.1 sp1) (A.1 sp2)).length = nby (K 0) := by rw [fillL_len]; omega
                      have hfin : AW (t8 13 13) 0 (fillL (A.1 sp1) (A.1 sp2)) := by
                        refine AW.of (fun q hq => ?_)
                        rw [hfl] at hq
                        rw [fillL_get, hlsp2]
                        simp only [hc8, cp, hb7, su_e, hc6, hb5]
                        repeat' split
                        all_goals first | rfl | omega | (congr 2; omega) | (congr 3; omega) | (exfalso; omega)
                      refine v_iload hX 0 rfl (atL dAX8_fill_1 48 rfl) ?_
                      refine v_iload hX 1 rfl (atL dAX8_fill_1 49 rfl) ?_
                      refine v_icmp_ge hX ⟨by omega, by omega⟩ ⟨by omega, by omega⟩ (tgt := 220) (atL dAX8_fill_1 50 rfl) (by decide) (fun h185 => ?_) (fun h185 => absurd h185 (by omega))
                      refine v_aload_n hX 3 rfl (atL dAX8_fill_2 9 rfl) ?_
                      refine v_iload_n hX 4 rfl (atL dAX8_fill_2 10 rfl) ?_
                      refine v_iconst hX (atL dAX8_fill_2 11 rfl) ?_
                      refine v_iload hX 2 rfl (atL dAX8_fill_2 12 rfl) ?_
                      refine v_iload hX 7 rfl (atL dAX8_fill_2 13 rfl) ?_
                      refine v_callV hX (As := [.int (iI ((kx : Int))), .int (iI (1)), .int (iI (((nby (K 0) : Nat) : Int))), .int (iI ((sp3 : Int)))]) (rest := []) (c_X8_padded (xl X) w t8 hk0 A (hM.same hG8 hA8 hD8) (by omega) kx (by omega) P K (hK.fg hG8) 0 (by omega) (fillL (A.1 sp1) (A.1 sp2)) (nby (K 0)) hfl hfin (fillL_by (hM.1.by (by omega)) (hM.1.by (by omega))) (by omega) sp3 (by omega)) lk_X8_387 hk0 (fun _ => rfl) rfl rfl rfl (by rw [hR]; exact ⟨Nat.le_of_ble_eq_true rfl, Nat.le_of_ble_eq_true rfl⟩) ⟨Nat.zero_le _, Nat.zero_le _⟩ rfl (Nat.le_of_ble_eq_true rfl) (atL dAX8_fill_2 14 rfl) (fun r9 s9 e9 => ?_)
                      show V X _ w _ _ s9 [.int (iI (r9))]
                      exact v_iret hX (atL dAX8_fill_2 15 rfl) (hret _ _ (by obtain ⟨e1, e2, e3, e4⟩ := e9; exact ⟨_, by rw [e2, e1]; unfold f_fill; simp only [Int.toNat_natCast, hPe, hKe]; rw [if_neg (by omega), if_neg (by rw [hlsp1]; omega), if_neg (fun q => by rcases q with q | q; exact q (by omega); omega)], e3, hG8.fc.tr e4⟩))
                    | succ d ih =>
                      intro j t8 hj hc8 hf8
                      have hsj : t8 13 0 (256 * sp1 + j) = (((A.1 sp1).getD j 0 : Nat) : Int) := by rw [hf8 13 0 (by decide)]; exact ((hM.1.fg hG7).1 sp1 (by omega)).1.2.2 j (by rw [hlsp1]; omega)
                      refine v_iload hX 0 rfl (atL dAX8_fill_1 48 rfl) ?_
                      refine v_iload hX 1 rfl (atL dAX8_fill_1 49 rfl) ?_
                      refine v_icmp_ge hX ⟨by omega, by omega⟩ ⟨by omega, by omega⟩ (tgt := 220) (atL dAX8_fill_1 50 rfl) (by decide) (fun h185 => absurd h185 (by omega)) (fun h185 => ?_)
                      refine v_aload_n hX 3 rfl (atL dAX8_fill_1 51 rfl) ?_
                      refine gf_X8_147 hX hk0 (atL dAX8_fill_1 52 rfl) ?_
                      refine v_iload hX 2 rfl (atL dAX8_fill_1 53 rfl) ?_
                      refine v_iload hX 1 rfl (atL dAX8_fill_1 54 rfl) ?_
                      refine v_isub hX (iI_sub _ _) (atL dAX8_fill_1 55 rfl) ?_
                      refine v_iload hX 0 rfl (atL dAX8_fill_1 56 rfl) ?_
                      refine v_iadd hX (iI_add _ _) (atL dAX8_fill_1 57 rfl) ?_
                      refine v_aload_n hX 3 rfl (atL dAX8_fill_1 58 rfl) ?_
                      refine gf_X8_67 hX hk0 (atL dAX8_fill_1 59 rfl) ?_
                      refine v_sipush hX (by decide +kernel) (atL dAX8_fill_2 0 rfl) ?_
                      refine v_iload_n hX 5 rfl (atL dAX8_fill_2 1 rfl) ?_
                      refine v_imul hX (iI_mul _ _) (atL dAX8_fill_2 2 rfl) ?_
                      refine v_iload hX 0 rfl (atL dAX8_fill_2 3 rfl) ?_
                      refine v_iadd hX (iI_add _ _) (atL dAX8_fill_2 4 rfl) ?_
                      refine v_iald hX (r := iI ((((A.1 sp1).getD j 0 : Nat) : Int))) ((256 * sp1 + j)) (hQ16 0 (by simp [mn, tp])) (fun _ => rfl) (by omega) (show 256 * sp1 + j < 6144 by omega) (by decide) (congrArg iI hsj) (atL dAX8_fill_2 5 rfl) ?_
                      refine v_iast hX (c := 13) ((nby (K 0) - lsp1 + j)) (hQ16 13 (by simp [mn, tp])) (by decide) (fun _ _ => rfl) (by omega) (show nby (K 0) - lsp1 + j < 600 by omega) (by decide) (atL dAX8_fill_2 6 rfl) ?_
                      refine v_iinc hX (lv' := [(7, .int (iI (((j : Int)) + 1))), (6, .int (iI (((lsp1 : Nat) : Int)))), (5, .int (iI (((nby (K 0) : Nat) : Int)))), (0, .ref (w.1 13 0)), (1, .int (iI ((kx : Int)))), (2, .int (iI ((sp1 : Int)))), (3, .int (iI ((sp2 : Int)))), (4, .int (iI ((sp3 : Int))))]) 0 rfl (iI_add _ _) (Nat.le_of_ble_eq_true rfl) rfl (atL dAX8_fill_2 7 rfl) ?_
                      refine v_goto hX (tgt := 181) (atL dAX8_fill_2 8 rfl) (by decide) ?_
                      refine v_sub (lv' := [(7, .int (iI (((j : Int)) + 1))), (6, .int (iI (((lsp1 : Nat) : Int)))), (5, .int (iI (((nby (K 0) : Nat) : Int)))), (0, .ref (w.1 13 0)), (1, .int (iI ((kx : Int)))), (2, .int (iI ((sp1 : Int)))), (3, .int (iI ((sp2 : Int)))), (4, .int (iI ((sp3 : Int))))]) [0, 1, 2, 3, 4, 5, 6, 7] rfl ?_
                      rw [show (j : Int) + 1 = ((j + 1 : Nat) : Int) by omega]
                      exact ih (j + 1) _ (by omega) (cp_s hc8 rfl) (hf8.tr' (Fr.su (by simp)))
                  refine v_sub (lv' := [(7, .int (iI (0))), (6, .int (iI (((lsp1 : Nat) : Int)))), (5, .int (iI (((nby (K 0) : Nat) : Int)))), (0, .ref (w.1 13 0)), (1, .int (iI ((kx : Int)))), (2, .int (iI ((sp1 : Int)))), (3, .int (iI ((sp2 : Int)))), (4, .int (iI ((sp3 : Int))))]) [0, 1, 2, 3, 4, 5, 6, 7] rfl ?_
                  exact loop8 (lsp1) 0 b7 (by omega) cp_0.symm Fr.rf
                | succ d ih =>
                  intro j t6 hj hc6 hf6
                  have hsj : t6 13 0 (256 * sp2 + j) = (((A.1 sp2).getD j 0 : Nat) : Int) := by rw [hf6 13 0 (by decide)]; exact ((hM.1.fg hG5).1 sp2 (by omega)).1.2.2 j (by rw [hlsp2]; omega)
                  refine v_iload hX 0 rfl (atL dAX8_fill_1 14 rfl) ?_
                  refine v_iload hX 2 rfl (atL dAX8_fill_1 15 rfl) ?_
                  refine v_iconst hX (atL dAX8_fill_1 16 rfl) ?_
                  refine v_isub hX (iI_sub _ _) (atL dAX8_fill_1 17 rfl) ?_
                  refine v_iload hX 1 rfl (atL dAX8_fill_1 18 rfl) ?_
                  refine v_isub hX (iI_sub _ _) (atL dAX8_fill_1 19 rfl) ?_
                  refine v_icmp_ge hX ⟨by omega, by omega⟩ ⟨by omega, by omega⟩ (tgt := 165) (atL dAX8_fill_1 20 rfl) (by decide) (fun h134 => absurd h134 (by omega)) (fun h134 => ?_)
                  refine v_aload_n hX 3 rfl (atL dAX8_fill_1 21 rfl) ?_
                  refine gf_X8_147 hX hk0 (atL dAX8_fill_1 22 rfl) ?_
                  refine v_iconst hX (atL dAX8_fill_1 23 rfl) ?_
                  refine v_iload hX 0 rfl (atL dAX8_fill_1 24 rfl) ?_
                  refine v_iadd hX (iI_add _ _) (atL dAX8_fill_1 25 rfl) ?_
                  refine v_aload_n hX 3 rfl (atL dAX8_fill_1 26 rfl) ?_
                  refine gf_X8_67 hX hk0 (atL dAX8_fill_1 27 rfl) ?_
                  refine v_sipush hX (by decide +kernel) (atL dAX8_fill_1 28 rfl) ?_
                  refine v_iload_n hX 6 rfl (atL dAX8_fill_1 29 rfl) ?_
                  refine v_imul hX (iI_mul _ _) (atL dAX8_fill_1 30 rfl) ?_
                  refine v_iload hX 0 rfl (atL dAX8_fill_1 31 rfl) ?_
                  refine v_iadd hX (iI_add _ _) (atL dAX8_fill_1 32 rfl) ?_
                  refine v_iald hX (r := iI ((((A.1 sp2).getD j 0 : Nat) : Int))) ((256 * sp2 + j)) (hQ16 0 (by simp [mn, tp])) (fun _ => rfl) (by omega) (show 256 * sp2 + j < 6144 by omega) (by decide) (congrArg iI hsj) (atL dAX8_fill_1 33 rfl) ?_
                  refine v_iast hX (c := 13) ((2 + j)) (hQ16 13 (by simp [mn, tp])) (by decide) (fun _ _ => rfl) (by omega) (show 2 + j < 600 by omega) (by decide) (atL dAX8_fill_1 34 rfl) ?_
                  refine v_iinc hX (lv' := [(7, .int (iI (((j : Int)) + 1))), (6, .int (iI (((lsp1 : Nat) : Int)))), (5, .int (iI (((nby (K 0) : Nat) : Int)))), (0, .ref (w.1 13 0)), (1, .int (iI ((kx : Int)))), (2, .int (iI ((sp1 : Int)))), (3, .int (iI ((sp2 : Int)))), (4, .int (iI ((sp3 : Int))))]) 0 rfl (iI_add _ _) (Nat.le_of_ble_eq_true rfl) rfl (atL dAX8_fill_1 35 rfl) ?_
                  refine v_goto hX (tgt := 125) (atL dAX8_fill_1 36 rfl) (by decide) ?_
                  refine v_sub (lv' := [(7, .int (iI (((j : Int)) + 1))), (6, .int (iI (((lsp1 : Nat) : Int)))), (5, .int (iI (((nby (K 0) : Nat) : Int)))), (0, .ref (w.1 13 0)), (1, .int (iI ((kx : Int)))), (2, .int (iI ((sp1 : Int)))), (3, .int (iI ((sp2 : Int)))), (4, .int (iI ((sp3 : Int))))]) [0, 1, 2, 3, 4, 5, 6, 7] rfl ?_
                  rw [show (j : Int) + 1 = ((j + 1 : Nat) : Int) by omega]
                  exact ih (j + 1) _ (by omega) (cp_s hc6 rfl) (hf6.tr' (Fr.su (by simp)))
              refine v_sub (lv' := [(7, .int (iI (0))), (6, .int (iI (((lsp1 : Nat) : Int)))), (5, .int (iI (((nby (K 0) : Nat) : Int)))), (0, .ref (w.1 13 0)), (1, .int (iI ((kx : Int)))), (2, .int (iI ((sp1 : Int)))), (3, .int (iI ((sp2 : Int)))), (4, .int (iI ((sp3 : Int))))]) [0, 1, 2, 3, 4, 5, 6, 7] rfl ?_
              exact loop6 (lsp2) 0 b5 (by omega) cp_0.symm Fr.rf
            | succ d ih =>
              intro j hj hi
              have hbj := (hM.1.by (s := sp2) (by omega)).get j
              refine v_iload hX 0 rfl (atL dAX8_fill_0 42 rfl) ?_
              refine v_iload hX 2 rfl (atL dAX8_fill_0 43 rfl) ?_
              refine v_iconst hX (atL dAX8_fill_0 44 rfl) ?_
              refine v_isub hX (iI_sub _ _) (atL dAX8_fill_0 45 rfl) ?_
              refine v_iload hX 1 rfl (atL dAX8_fill_0 46 rfl) ?_
              refine v_isub hX (iI_sub _ _) (atL dAX8_fill_0 47 rfl) ?_
              refine v_icmp_ge hX ⟨by omega, by omega⟩ ⟨by omega, by omega⟩ (tgt := 108) (atL dAX8_fill_0 48 rfl) (by decide) (fun h80 => absurd h80 (by omega)) (fun h80 => ?_)
              refine v_aload_n hX 3 rfl (atL dAX8_fill_0 49 rfl) ?_
              refine gf_X8_67 hX hk0 (atL dAX8_fill_0 50 rfl) ?_
              refine v_sipush hX (by decide +kernel) (atL dAX8_fill_0 51 rfl) ?_
              refine v_iload_n hX 6 rfl (atL dAX8_fill_0 52 rfl) ?_
              refine v_imul hX (iI_mul _ _) (atL dAX8_fill_0 53 rfl) ?_
              refine v_iload hX 0 rfl (atL dAX8_fill_0 54 rfl) ?_
              refine v_iadd hX (iI_add _ _) (atL dAX8_fill_0 55 rfl) ?_
              refine v_iald hX (r := iI ((((A.1 sp2).getD j 0 : Nat) : Int))) ((256 * sp2 + j)) (hQ16 0 (by simp [mn, tp])) (fun _ => rfl) (by omega) (show 256 * sp2 + j < 6144 by omega) (by decide) (congrArg iI (((hM.1.fg hG3).1 sp2 (by omega)).1.2.2 j (by rw [hlsp2]; omega))) (atL dAX8_fill_0 56 rfl) ?_
              refine v_if_ne hX ⟨by omega, by omega⟩ (tgt := 102) (atL dAX8_fill_0 57 rfl) (by decide) (fun h96 => ?_) (fun h96 => ?_)
              · refine v_iinc hX (lv' := [(7, .int (iI (((j : Int)) + 1))), (6, .int (iI (((lsp1 : Nat) : Int)))), (5, .int (iI (((nby (K 0) : Nat) : Int)))), (0, .ref (w.1 13 0)), (1, .int (iI ((kx : Int)))), (2, .int (iI ((sp1 : Int)))), (3, .int (iI ((sp2 : Int)))), (4, .int (iI ((sp3 : Int))))]) 0 rfl (iI_add _ _) (Nat.le_of_ble_eq_true rfl) rfl (atL dAX8_fill_1 0 rfl) ?_
                refine v_goto hX (tgt := 71) (atL dAX8_fill_1 1 rfl) (by decide) ?_
                refine v_sub (lv' := [(7, .int (iI (((j : Int)) + 1))), (6, .int (iI (((lsp1 : Nat) : Int)))), (5, .int (iI (((nby (K 0) : Nat) : Int)))), (0, .ref (w.1 13 0)), (1, .int (iI ((kx : Int)))), (2, .int (iI ((sp1 : Int)))), (3, .int (iI ((sp2 : Int)))), (4, .int (iI ((sp3 : Int))))]) [0, 1, 2, 3, 4, 5, 6, 7] rfl ?_
                rw [show (j : Int) + 1 = ((j + 1 : Nat) : Int) by omega]
                exact ih (j + 1) (by omega) (fun q hq => by by_cases c : q = j; rw [c]; omega; exact hi q (by omega))
              · have hrun : run (fun x => decide (x ≠ 0)) (A.1 sp2) 0 = j := run_eq (by rw [hlsp2]; omega) (fun q _ hq => by simpa using hi q (by omega)) (Or.inr (by rw [Nat.zero_add, show (A.1 sp2).getD j 0 = 0 by omega]; decide))
                refine v_bipush hX (by decide +kernel) (atL dAX8_fill_0 58 rfl) ?_
                exact v_iret hX (atL dAX8_fill_0 59 rfl) (hret _ _ ⟨A, by rw [show s3 10 0 0 = 0 by omega]; unfold f_fill; simp only [Int.toNat_natCast, hPe, hKe]; rw [if_neg (by omega), if_neg (by rw [hlsp1]; omega), if_pos (Or.inr (by rw [hrun, hlsp2]; omega))], hM.same hG3 hA3 hD3, hG3.fc⟩)
          refine v_sub (lv' := [(7, .int (iI (0))), (6, .int (iI (((lsp1 : Nat) : Int)))), (5, .int (iI (((nby (K 0) : Nat) : Int)))), (0, .ref (w.1 13 0)), (1, .int (iI ((kx : Int)))), (2, .int (iI ((sp1 : Int)))), (3, .int (iI ((sp2 : Int)))), (4, .int (iI ((sp3 : Int))))]) [0, 1, 2, 3, 4, 5, 6, 7] rfl ?_
          exact loop4 (lsp2 - 0) 0 (by omega) (fun q hq => absurd hq (by omega))
        · refine v_bipush hX (by decide +kernel) (atL dAX8_fill_0 38 rfl) ?_
          exact v_iret hX (atL dAX8_fill_0 39 rfl) (hret _ _ ⟨A, by rw [show s3 10 0 0 = 0 by omega]; unfold f_fill; simp only [Int.toNat_natCast, hPe, hKe]; rw [if_neg (by omega), if_neg (by rw [hlsp1]; omega), if_pos (Or.inl (by rw [hlsp1, hlsp2]; omega))], hM.same hG3 hA3 hD3, hG3.fc⟩)
      · refine v_bipush hX (by decide +kernel) (atL dAX8_fill_0 26 rfl) ?_
        exact v_iret hX (atL dAX8_fill_0 27 rfl) (hret _ _ ⟨A, by rw [show s3 10 0 0 = 0 by omega]; unfold f_fill; simp only [Int.toNat_natCast, hPe, hKe]; rw [if_neg (by omega), if_pos (by rw [hlsp1]; omega)], hM.same hG3 hA3 hD3, hG3.fc⟩)
    · refine v_iconst hX (atL dAX8_fill_0 10 rfl) ?_
      exact v_iret hX (atL dAX8_fill_0 11 rfl) (hret _ _ ⟨A, by rw [show s2 10 0 0 = 1 by omega]; unfold f_fill; rw [if_pos (by omega)], hM.same hG2 hA2 hD2, hG2.fc⟩)
