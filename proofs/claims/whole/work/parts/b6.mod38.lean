def cp2 (f : Nat → Int) (o : Nat) (g : Nat → Int) (p : Nat) (k : Nat → Int) (n : Nat) : Nat → Int := fun j => if o ≤ j ∧ j < o + n then g (j - o) else if p ≤ j ∧ j < p + n then k (j - p) else f j
theorem cp2_0 {f g k : Nat → Int} {o p : Nat} : cp2 f o g p k 0 = f := by
  funext j
  unfold cp2
  rw [if_neg (by omega), if_neg (by omega)]
theorem cp2_s {t : St} {a o p j : Nat} {f g k : Nat → Int} {v u : Int} (h : t 13 a = cp2 f o g p k j) (hv : v = g j) (hu : u = k j) (hop : o + j < p) : su (su t 13 a (o + j) v) 13 a (p + j) u 13 a = cp2 f o g p k (j + 1) := by
  funext q
  rw [su_e, su_e, h]
  unfold cp2
  by_cases c : q = p + j
  · rw [if_pos c, if_neg (by omega), if_pos (by omega), hu]
    congr 1
    omega
  · rw [if_neg c]
    by_cases d : q = o + j
    · rw [if_pos d, if_pos (by omega), hv]
      congr 1
      omega
    · rw [if_neg d]
      by_cases e : o ≤ q ∧ q < o + j
      · rw [if_pos e, if_pos (by omega)]
      · by_cases e2 : p ≤ q ∧ q < p + j
        · rw [if_neg e, if_pos e2, if_neg (by omega), if_pos (by omega)]
        · rw [if_neg e, if_neg e2, if_neg (by omega), if_neg (by omega)]
theorem hide0_get {s d m : List Nat} {z q : Nat} : ([0] ++ s ++ (d ++ List.replicate z 0 ++ [1] ++ m)).getD q 0 = if q = 0 then 0 else if q < 1 + s.length then s.getD (q - 1) 0 else if q < 1 + s.length + d.length then d.getD (q - (1 + s.length)) 0 else if q < 1 + s.length + d.length + z then 0 else if q = 1 + s.length + d.length + z then 1 else m.getD (q - (2 + s.length + d.length + z)) 0 := by
  simp only [gD_app, gD_one, gD_rep, List.length_append, List.length_cons, List.length_nil, List.length_replicate]
  repeat' split
  all_goals first | rfl | omega | (congr 1; omega) | (exfalso; omega)
theorem hideD_by {h : Int} {k : Nat} {m lb sd : List Nat} (hm : BY m) : BY (hideD h k m lb sd) := mix_by (((BY.app sha_lt (BY.rep (by omega))).app (BY.one (by omega))).app hm) msk_by

set_option maxHeartbeats 8000000 in
set_option maxRecDepth 100000 in
theorem c_X8_hide [Gh] (l : Launch) (w : Wl) (σ : St) (hk0 : w.2 13 0) (hw19 : ∀ q, w.2 19 q → q < 4096) (A : Ab) (hM : HM σ A) (p0 : Int) (hp0 : rI p0) (p1 : Int) (hp1 : rI p1) (p2 : Int) (hp2 : rI p2) (p3 : Int) (hp3 : rI p3) (p4 : Int) (hp4 : rI p4) (p5 : Int) (hp5 : rI p5) : Cz l yX8_hide cX8_hide 11 (Option.some Jvm.ClassFile.FieldType.int) 7 176 (kap σ * 10360) (kap σ * 103600) wI [.ref (w.1 13 0), .int (iI (p0)), .int (iI (p1)), .int (iI (p2)), .int (iI (p3)), .int (iI (p4)), .int (iI (p5))] w σ (fun a σ' => ∃ A', f_hide A p0 p1 p2 p3 p4 p5 = (σ' 10 0 0, a, A') ∧ HM σ' A' ∧ FC σ σ') := by
  refine Cz.of (own := RX8) (lv := [(0, .ref (w.1 13 0)), (1, .int (iI (p0))), (2, .int (iI (p1))), (3, .int (iI (p2))), (4, .int (iI (p3))), (5, .int (iI (p4))), (6, .int (iI (p5)))]) (by decide +kernel) rfl (Nat.le_of_ble_eq_true rfl) rfl (fun X hX hxl hR hcl hret => ?_)
  subst hxl
  have hQ : ∀ q, (14, q) ∈ mn σ 13 0 → w.2 14 q := fun q h => hcl 13 0 hk0 (14, q) h
  have hQ5 : ∀ q, (14, q) ∈ mn σ 13 0 → w.2 15 q := fun q h => hcl 14 q (hQ q h) (15, q) (by simp [mn, tp])
  have hQ16 : ∀ q, (16, q) ∈ mn σ 13 0 → w.2 16 q := fun q h => hcl 13 0 hk0 (16, q) h
  have hp0a := hp0.1
  have hp0b := hp0.2
  have hp1a := hp1.1
  have hp1b := hp1.2
  have hp2a := hp2.1
  have hp2b := hp2.2
  have hp3a := hp3.1
  have hp3b := hp3.2
  have hp4a := hp4.1
  have hp4b := hp4.2
  have hp5a := hp5.1
  have hp5b := hp5.2
  refine v_aload_n hX 0 rfl (atL dAX8_hide_0 0 rfl) ?_
  refine v_iload_n hX 3 rfl (atL dAX8_hide_0 1 rfl) ?_
  refine v_iload hX 4 rfl (atL dAX8_hide_0 2 rfl) ?_
  refine v_iload hX 5 rfl (atL dAX8_hide_0 3 rfl) ?_
  refine v_callV hX (As := [.int (iI (p2)), .int (iI (p3)), .int (iI (p4))]) (rest := []) (c_X8_are (xl X) w σ hk0 p2 hp2 p3 hp3 p4 hp4) lk_X8_240 hk0 (fun _ => rfl) rfl rfl rfl (by rw [hR]; exact ⟨Nat.le_of_ble_eq_true rfl, Nat.le_of_ble_eq_true rfl⟩) (by rw [hR]; exact (ZI.z : ZI (kap σ) (0, 0) σ).b) rfl (Nat.le_of_ble_eq_true rfl) (atL dAX8_hide_0 4 rfl) (fun r1 s1 g1 => ?_)
  obtain ⟨gs1, ht1, hG1, hA1, hD1⟩ := are_use g1 FG.rf hM.2.1 hM.2.2
  have gd1 : r1 = 0 ∨ r1 = 1 := by rcases gs1 with q | q <;> omega
  have hz1 := (ZI.z : ZI (kap σ) (0, 0) σ).k (t := s1) (are_4 g1)
  show V X _ w _ _ s1 [.int (iI (r1))]
  refine v_if_eq hX ⟨by omega, by omega⟩ (tgt := 37) (atL dAX8_hide_0 5 rfl) (by decide) (fun h9 => ?_) (fun h9 => ?_)
  · refine v_iconst hX (atL dAX8_hide_0 18 rfl) ?_
    exact v_iret hX (atL dAX8_hide_0 19 rfl) ((hret _ _ ⟨A, by rw [show s1 10 0 0 = 1 by omega]; unfold f_hide; rw [if_pos (by omega)], hM.same hG1 hA1 hD1, hG1.fc⟩ _ hz1))
  · refine v_aload_n hX 0 rfl (atL dAX8_hide_0 6 rfl) ?_
    refine v_iload hX 6 rfl (atL dAX8_hide_0 7 rfl) ?_
    refine v_callV hX (As := [.int (iI (p5))]) (rest := []) (c_X8_isSlot (xl X) w s1 hk0 p5 hp5) lk_X8_237 hk0 (fun _ => rfl) rfl rfl rfl (by rw [hR]; exact ⟨Nat.le_of_ble_eq_true rfl, Nat.le_of_ble_eq_true rfl⟩) (by rw [hR]; exact hz1.b) rfl (Nat.le_of_ble_eq_true rfl) (atL dAX8_hide_0 8 rfl) (fun r2 s2 g2 => ?_)
    obtain ⟨gs2, ht2, hG2, hA2, hD2⟩ := iss_use g2 (by omega) hG1 hA1 hD1
    have gd2 : r2 = 0 ∨ r2 = 1 := by rcases gs2 with q | q <;> omega
    have hz2 := hz1.k (t := s2) (iss_4 g2)
    show V X _ w _ _ s2 [.int (iI (r2))]
    refine v_if_eq hX ⟨by omega, by omega⟩ (tgt := 37) (atL dAX8_hide_0 9 rfl) (by decide) (fun h18 => ?_) (fun h18 => ?_)
    · refine v_iconst hX (atL dAX8_hide_0 18 rfl) ?_
      exact v_iret hX (atL dAX8_hide_0 19 rfl) ((hret _ _ ⟨A, by rw [show s2 10 0 0 = 1 by omega]; unfold f_hide; rw [if_pos (by omega)], hM.same hG2 hA2 hD2, hG2.fc⟩ _ hz2))
    · refine v_aload_n hX 0 rfl (atL dAX8_hide_0 10 rfl) ?_
      refine v_iload_n hX 1 rfl (atL dAX8_hide_0 11 rfl) ?_
      refine v_callV hX (As := [.int (iI (p0))]) (rest := []) (c_X8_isKey (xl X) w s2 hk0 p0 hp0 A.2.1 (hM.1.fg hG2).2.2.1 hM.1.2.2.2.1) lk_X8_370 hk0 (fun _ => rfl) rfl rfl rfl (by rw [hR]; exact ⟨Nat.le_of_ble_eq_true rfl, Nat.le_of_ble_eq_true rfl⟩) (by rw [hR]; exact hz2.b) rfl (Nat.le_of_ble_eq_true rfl) (atL dAX8_hide_0 12 rfl) (fun r3 s3 g3 => ?_)
      obtain ⟨gs3, ht3, hG3, hA3, hD3⟩ := iss_use g3 (by omega) hG2 hA2 hD2
      have gd3 : r3 = 0 ∨ r3 = 1 := by rcases gs3 with q | q <;> omega
      have hz3 := hz2.k (t := s3) (iss_4 g3)
      show V X _ w _ _ s3 [.int (iI (r3))]
      refine v_if_eq hX ⟨by omega, by omega⟩ (tgt := 37) (atL dAX8_hide_0 13 rfl) (by decide) (fun h26 => ?_) (fun h26 => ?_)
      · refine v_iconst hX (atL dAX8_hide_0 18 rfl) ?_
        exact v_iret hX (atL dAX8_hide_0 19 rfl) ((hret _ _ ⟨A, by rw [show s3 10 0 0 = 1 by omega]; unfold f_hide; rw [if_pos (by omega)], hM.same hG3 hA3 hD3, hG3.fc⟩ _ hz3))
      · refine v_aload_n hX 0 rfl (atL dAX8_hide_0 14 rfl) ?_
        refine v_iload_n hX 2 rfl (atL dAX8_hide_0 15 rfl) ?_
        refine v_callV hX (As := [.int (iI (p1))]) (rest := []) (c_X8_isHash (xl X) w s3 hk0 p1 hp1) lk_X8_342 hk0 (fun _ => rfl) rfl rfl rfl (by rw [hR]; exact ⟨Nat.le_of_ble_eq_true rfl, Nat.le_of_ble_eq_true rfl⟩) (by rw [hR]; exact hz3.b) rfl (Nat.le_of_ble_eq_true rfl) (atL dAX8_hide_0 16 rfl) (fun r4 s4 g4 => ?_)
        obtain ⟨gs4, ht4, hG4, hA4, hD4⟩ := ish_use g4 (by omega) hG3 hA3 hD3
        have gd4 : r4 = 0 ∨ r4 = 1 := by rcases gs4 with q | q <;> omega
        have hz4 := hz3.k (t := s4) (iss_4 g4)
        show V X _ w _ _ s4 [.int (iI (r4))]
        refine v_if_ne hX ⟨by omega, by omega⟩ (tgt := 39) (atL dAX8_hide_0 17 rfl) (by decide) (fun h34 => ?_) (fun h34 => ?_)
        · obtain ⟨sp2, rfl⟩ : ∃ q : Nat, p2 = (q : Int) := ⟨p2.toNat, by omega⟩
          obtain ⟨sp3, rfl⟩ : ∃ q : Nat, p3 = (q : Int) := ⟨p3.toNat, by omega⟩
          obtain ⟨sp4, rfl⟩ : ∃ q : Nat, p4 = (q : Int) := ⟨p4.toNat, by omega⟩
          obtain ⟨sp5, rfl⟩ : ∃ q : Nat, p5 = (q : Int) := ⟨p5.toNat, by omega⟩
          obtain ⟨lsp2, hlsp2⟩ : ∃ q, (A.1 sp2).length = q := ⟨_, rfl⟩
          have hqsp2 : lsp2 ≤ 256 := by rw [← hlsp2]; exact hM.1.len (by omega)
          have hbvsp2 : lb (rv (A.1 sp2)) 128 := rv_lb (hM.1.by (by omega)) (hM.1.len (by omega))
          obtain ⟨lsp3, hlsp3⟩ : ∃ q, (A.1 sp3).length = q := ⟨_, rfl⟩
          have hqsp3 : lsp3 ≤ 256 := by rw [← hlsp3]; exact hM.1.len (by omega)
          have hbvsp3 : lb (rv (A.1 sp3)) 128 := rv_lb (hM.1.by (by omega)) (hM.1.len (by omega))
          obtain ⟨lsp4, hlsp4⟩ : ∃ q, (A.1 sp4).length = q := ⟨_, rfl⟩
          have hqsp4 : lsp4 ≤ 256 := by rw [← hlsp4]; exact hM.1.len (by omega)
          have hbvsp4 : lb (rv (A.1 sp4)) 128 := rv_lb (hM.1.by (by omega)) (hM.1.len (by omega))
          obtain ⟨lsp5, hlsp5⟩ : ∃ q, (A.1 sp5).length = q := ⟨_, rfl⟩
          have hqsp5 : lsp5 ≤ 256 := by rw [← hlsp5]; exact hM.1.len (by omega)
          have hbvsp5 : lb (rv (A.1 sp5)) 128 := rv_lb (hM.1.by (by omega)) (hM.1.len (by omega))
          obtain ⟨kx, rfl⟩ : ∃ q : Nat, p0 = (q : Int) := ⟨p0.toNat, by omega⟩
          obtain ⟨P, hPe⟩ : ∃ q, A.2.2.1 kx = q := ⟨_, rfl⟩
          obtain ⟨K, hKe⟩ : ∃ q, A.2.2.2 kx = q := ⟨_, rfl⟩
          have hK : KM σ kx P K := by rw [← hPe, ← hKe]; exact hM.1.2.2.2.2 kx (by omega)
          have hk16 := hM.1.2.2.2.1
          have hPP := hK.1
          have hkb : ∀ j, j < P → lb (K j) 64 := fun j hj => by have := (hK.2.2.1 j hj).2.1; exact nby_lb this
          have hK0 := hK.2.2.2
          have hKn := (hK.2.2.1 0 (by omega)).2.1
          have hKn1 := nby_pos hK0
          have hKnb : nby (K 0) = (blen (K 0) + 7) / 8 := rfl
          have hblK := blen_pos hK0
          have hh : isH p1 := by omega
          have hhr : rI p1 := hp1
          have hlg := hl_ge p1
          have hl3 := hl_32 p1
          refine v_aload_n hX 0 rfl (atL dAX8_hide_0 20 rfl) ?_
          refine v_iload_n hX 1 rfl (atL dAX8_hide_0 21 rfl) ?_
          refine v_callV hX (As := [.int (iI ((kx : Int)))]) (rest := []) (c_X8_lengthOf (xl X) w s4 hk0 hA4 kx (by omega) P K (hK.fg hG4)) lk_X8_380 hk0 (fun _ => rfl) rfl rfl rfl (by rw [hR]; exact ⟨Nat.le_of_ble_eq_true rfl, Nat.le_of_ble_eq_true rfl⟩) (by rw [hR]; exact hz4.b) rfl (Nat.le_of_ble_eq_true rfl) (atL dAX8_hide_0 22 rfl) (fun r5 s5 e5 => ?_)
          obtain ⟨ga5, hw5, hf5⟩ := e5
          subst ga5
          have hA5 := hA4.one hf5 hw5
          have hG5 := hG4.fr hf5 rfl (by decide)
          have hD5 := hD4.fr hf5 (by decide) (by decide) (by decide)
          have ht5 : s5 10 0 0 = 0 := by rw [hf5 10 0 (by decide)]; omega
          have hz5 := hz4.k (t := s5) (by rw [hf5 10 0 (by decide)])
          show V X _ w _ _ s5 [.int (iI (((nby (K 0) : Nat) : Int)))]
          refine v_istore hX (lv' := [(7, .int (iI (((nby (K 0) : Nat) : Int)))), (0, .ref (w.1 13 0)), (1, .int (iI ((kx : Int)))), (2, .int (iI (p1))), (3, .int (iI ((sp2 : Int)))), (4, .int (iI ((sp3 : Int)))), (5, .int (iI ((sp4 : Int)))), (6, .int (iI ((sp5 : Int))))]) (Nat.le_of_ble_eq_true rfl) rfl (atL dAX8_hide_0 23 rfl) ?_
          refine v_iload_n hX 3 rfl (atL dAX8_hide_0 24 rfl) ?_
          refine v_callS hX (As := [.int (iI (p1))]) (rest := []) (c_X8_long0 (xl X) w s5 p1 hhr) lk_X8_351 rfl (by rw [hR]; exact ⟨Nat.le_of_ble_eq_true rfl, Nat.le_of_ble_eq_true rfl⟩) (by rw [hR]; exact hz5.b) rfl (Nat.le_of_ble_eq_true rfl) (atL dAX8_hide_0 25 rfl) (fun r6 z6 g6 => ?_)
          obtain ⟨ga6, gb6⟩ := g6
          rw [gb6]
          subst ga6
          show V X _ w _ _ s5 [.int (iI ((hl p1 : Int)))]
          refine v_istore hX (lv' := [(8, .int (iI ((hl p1 : Int)))), (7, .int (iI (((nby (K 0) : Nat) : Int)))), (0, .ref (w.1 13 0)), (1, .int (iI ((kx : Int)))), (2, .int (iI (p1))), (3, .int (iI ((sp2 : Int)))), (4, .int (iI ((sp3 : Int)))), (5, .int (iI ((sp4 : Int)))), (6, .int (iI ((sp5 : Int))))]) (Nat.le_of_ble_eq_true rfl) rfl (atL dAX8_hide_0 26 rfl) ?_
          refine v_aload_n hX 2 rfl (atL dAX8_hide_0 27 rfl) ?_
          refine gf_X8_71 hX hk0 (atL dAX8_hide_0 28 rfl) ?_
          refine v_iload_n hX 5 rfl (atL dAX8_hide_0 29 rfl) ?_
          refine v_iald hX (r := iI (((lsp2 : Nat) : Int))) sp2 (hQ16 1 (by simp [mn, tp])) (fun _ => rfl) rfl (show sp2 < 24 by omega) (by decide) (congrArg iI (((hM.1.fg hG5).1 sp2 (by omega)).1.1.trans (by rw [hlsp2]))) (atL dAX8_hide_0 30 rfl) ?_
          refine v_istore hX (lv' := [(9, .int (iI (((lsp2 : Nat) : Int)))), (8, .int (iI ((hl p1 : Int)))), (7, .int (iI (((nby (K 0) : Nat) : Int)))), (0, .ref (w.1 13 0)), (1, .int (iI ((kx : Int)))), (2, .int (iI (p1))), (3, .int (iI ((sp2 : Int)))), (4, .int (iI ((sp3 : Int)))), (5, .int (iI ((sp4 : Int)))), (6, .int (iI ((sp5 : Int))))]) (Nat.le_of_ble_eq_true rfl) rfl (atL dAX8_hide_0 31 rfl) ?_
          refine v_iload hX 0 rfl (atL dAX8_hide_0 32 rfl) ?_
          refine v_iload hX 2 rfl (atL dAX8_hide_0 33 rfl) ?_
          refine v_iconst hX (atL dAX8_hide_0 34 rfl) ?_
          refine v_iload hX 1 rfl (atL dAX8_hide_0 35 rfl) ?_
          refine v_imul hX (iI_mul _ _) (atL dAX8_hide_0 36 rfl) ?_
          refine v_isub hX (iI_sub _ _) (atL dAX8_hide_0 37 rfl) ?_
          refine v_iconst hX (atL dAX8_hide_0 38 rfl) ?_
          refine v_isub hX (iI_sub _ _) (atL dAX8_hide_0 39 rfl) ?_
          refine v_icmp_le hX ⟨by omega, by omega⟩ ⟨by omega, by omega⟩ (tgt := 77) (atL dAX8_hide_0 40 rfl) (by decide) (fun h71 => ?_) (fun h71 => ?_)
          · refine v_aload_n hX 3 rfl (atL dAX8_hide_0 43 rfl) ?_
            refine gf_X8_71 hX hk0 (atL dAX8_hide_0 44 rfl) ?_
            refine v_iload hX 8 rfl (atL dAX8_hide_0 45 rfl) ?_
            refine v_iald hX (r := iI (((lsp4 : Nat) : Int))) sp4 (hQ16 1 (by simp [mn, tp])) (fun _ => rfl) rfl (show sp4 < 24 by omega) (by decide) (congrArg iI (((hM.1.fg hG5).1 sp4 (by omega)).1.1.trans (by rw [hlsp4]))) (atL dAX8_hide_0 46 rfl) ?_
            refine v_iload hX 1 rfl (atL dAX8_hide_0 47 rfl) ?_
            refine v_icmp_eq hX ⟨by omega, by omega⟩ ⟨by omega, by omega⟩ (tgt := 92) (atL dAX8_hide_0 48 rfl) (by decide) (fun h86 => ?_) (fun h86 => ?_)
            · refine v_iconst hX (atL dAX8_hide_0 51 rfl) ?_
              refine v_istore hX (lv' := [(10, .int (iI (0))), (9, .int (iI (((lsp2 : Nat) : Int)))), (8, .int (iI ((hl p1 : Int)))), (7, .int (iI (((nby (K 0) : Nat) : Int)))), (0, .ref (w.1 13 0)), (1, .int (iI ((kx : Int)))), (2, .int (iI (p1))), (3, .int (iI ((sp2 : Int)))), (4, .int (iI ((sp3 : Int)))), (5, .int (iI ((sp4 : Int)))), (6, .int (iI ((sp5 : Int))))]) (Nat.le_of_ble_eq_true rfl) rfl (atL dAX8_hide_0 52 rfl) ?_
              have loop7 : ∀ (d j : Nat) (t7 : St), j + d = nby (K 0) → t7 13 13 = cp (s5 13 13) 0 j (fun _ => 0) → Fr [(13, 13)] s5 t7 → V X (0, 0) w 95 [(10, .int (iI ((j : Int)))), (9, .int (iI (((lsp2 : Nat) : Int)))), (8, .int (iI ((hl p1 : Int)))), (7, .int (iI (((nby (K 0) : Nat) : Int)))), (0, .ref (w.1 13 0)), (1, .int (iI ((kx : Int)))), (2, .int (iI (p1))), (3, .int (iI ((sp2 : Int)))), (4, .int (iI ((sp3 : Int)))), (5, .int (iI ((sp4 : Int)))), (6, .int (iI ((sp5 : Int))))] t7 [] := by
                intro d
                induction d with
                | zero =>
                  intro j t7 hj hc7 hf7
                  have hjN : j = nby (K 0) := by omega
                  subst j
                  have hA7 := hA5.fp hf7 rfl
                  have hn7_23 := nm.fr hw5 hf7 (by decide) (by decide)
                  have hG7 := hG5.fr hf7 rfl (by decide)
                  have hD7 := hD5.fr hf7 (by decide) (by decide) (by decide)
                  have ht7 : t7 10 0 0 = 0 := by rw [hf7 10 0 (by decide)]; omega
                  have hz7 := hz5.k (t := t7) (by rw [hf7 10 0 (by decide)])
                  have hzr : AW (t7 13 13) 0 (List.replicate (nby (K 0)) 0) := AW.of (fun q hq => by rw [List.length_replicate] at hq; rw [hc7, gD_rep, if_pos hq]; unfold cp; rw [if_pos (by omega)]; rfl)
                  refine v_iload hX 0 rfl (atL dAX8_hide_0 53 rfl) ?_
                  refine v_iload hX 3 rfl (atL dAX8_hide_0 54 rfl) ?_
                  refine v_icmp_ge hX ⟨by omega, by omega⟩ ⟨by omega, by omega⟩ (tgt := 116) (atL dAX8_hide_0 55 rfl) (by decide) (fun h99 => ?_) (fun h99 => absurd h99 (by omega))
                  refine v_aload_n hX 4 rfl (atL dAX8_hide_1 3 rfl) ?_
                  refine v_iload hX 8 rfl (atL dAX8_hide_1 4 rfl) ?_
                  refine v_callV hX (As := [.int (iI ((sp3 : Int)))]) (rest := []) (c_X8_saysSlot (xl X) w t7 hk0 ([]) hD7.rd sp3 (by omega) (A.1 sp3) ((hM.1.fg hG7).1 sp3 (by omega)).1 (by rw [hlsp3]; show 0 + _ ≤ _; omega)) lk_X8_345 hk0 (fun _ => rfl) rfl rfl rfl (by rw [hR]; exact ⟨Nat.le_of_ble_eq_true rfl, Nat.le_of_ble_eq_true rfl⟩) (by rw [hR]; exact hz7.b) rfl (Nat.le_of_ble_eq_true rfl) (atL dAX8_hide_1 5 rfl) (fun _ s8 e8 => ?_)
                  obtain ⟨hr8, gb8⟩ := e8
                  rw [List.nil_append] at hr8
                  have hn8_23 := nm.fr hn7_23 gb8.1 (by decide) (by decide)
                  have hl8 : (A.1 sp3).length = lsp3 := by exact hlsp3
                  have hG8 := hG7.fd gb8
                  have hA8 := hA7.fp gb8.1 rfl
                  have hco8 := CO.fd hD7.2 gb8
                  have ht8 : s8 10 0 0 = 0 := by rw [gb8.2 0 (by decide)]; omega
                  have hal8_13 : AW (s8 13 13) 0 (List.replicate (nby (K 0)) 0) := by rw [gb8.1 13 13 (by decide)]; exact hzr
                  have hz8 := hz7.k (t := s8) (gb8.2 4 (by decide))
                  show V X _ w _ _ s8 []
                  refine v_aload_n hX 4 rfl (atL dAX8_hide_1 6 rfl) ?_
                  refine v_iload_n hX 6 rfl (atL dAX8_hide_1 7 rfl) ?_
                  refine v_callVM hX (As := [.int (iI (p1))]) (rest := []) (c_X8_digests (xl X) w s8 hk0 hw19 hco8 p1 hh (A.1 sp3) hr8 (by rw [hl8]; omega)) lk_X8_348 hk0 (fun _ => rfl) rfl rfl rfl (by rw [hR]; exact ⟨Nat.le_of_ble_eq_true rfl, Nat.le_of_ble_eq_true rfl⟩) (by rw [hR]; exact hz8) rfl (Nat.le_of_ble_eq_true rfl) (atL dAX8_hide_1 8 rfl) (fun _ s9 e9 => ?_)
                  obtain ⟨h59, h39, hck9, hg9⟩ := e9
                  have hz9 := hz8.d hck9
                  generalize (((0, 0) : Nat × Nat).1 + kap s8 * 10360, ((0, 0) : Nat × Nat).2 + kap s8 * 103600) = z9 at hz9 ⊢
                  have hn9_23 := nm.fr hn8_23 hg9.1 (by decide) (by decide)
                  have hal9_13 : AW (s9 13 13) 0 (List.replicate (nby (K 0)) 0) := by rw [hg9.1 13 13 (by decide)]; exact hal8_13
                  have hG9 := FDg.fg hG8 hg9
                  have hA9 := FDg.an hA8 hg9
                  have hD9 := hck9.dg h39
                  have ht9 : s9 10 0 0 = 0 := by rw [hg9.2 0 (by decide) (by decide)]; omega
                  show V X _ w _ _ s9 []
                  refine v_iconst hX (atL dAX8_hide_1 9 rfl) ?_
                  refine v_istore hX (lv' := [(10, .int (iI (0))), (9, .int (iI (((lsp2 : Nat) : Int)))), (8, .int (iI ((hl p1 : Int)))), (7, .int (iI (((nby (K 0) : Nat) : Int)))), (0, .ref (w.1 13 0)), (1, .int (iI ((kx : Int)))), (2, .int (iI (p1))), (3, .int (iI ((sp2 : Int)))), (4, .int (iI ((sp3 : Int)))), (5, .int (iI ((sp4 : Int)))), (6, .int (iI ((sp5 : Int))))]) (Nat.le_of_ble_eq_true rfl) rfl (atL dAX8_hide_1 10 rfl) ?_
                  have loop10 : ∀ (d j : Nat) (t10 : St), j + d = hl p1 → t10 13 13 = cp2 (s9 13 13) 1 (fun q => (((A.1 sp4).getD q 0 : Nat) : Int)) (1 + hl p1) (fun q => (((sha p1 (A.1 sp3)).getD q 0 : Nat) : Int)) j → Fr [(13, 13)] s9 t10 → V X z9 w 130 [(10, .int (iI ((j : Int)))), (9, .int (iI (((lsp2 : Nat) : Int)))), (8, .int (iI ((hl p1 : Int)))), (7, .int (iI (((nby (K 0) : Nat) : Int)))), (0, .ref (w.1 13 0)), (1, .int (iI ((kx : Int)))), (2, .int (iI (p1))), (3, .int (iI ((sp2 : Int)))), (4, .int (iI ((sp3 : Int)))), (5, .int (iI ((sp4 : Int)))), (6, .int (iI ((sp5 : Int))))] t10 [] := by
                    intro d
                    induction d with
                    | zero =>
                      intro j t10 hj hc10 hf10
                      have hjN : j = hl p1 := by omega
                      subst j
                      have hA10 := hA9.fp hf10 rfl
                      have hn10_23 := nm.fr hn9_23 hf10 (by decide) (by decide)
                      have hG10 := hG9.fr hf10 rfl (by decide)
                      have hD10 := hD9.fr hf10 (by decide) (by decide) (by decide)
                      have ht10 : t10 10 0 0 = 0 := by rw [hf10 10 0 (by decide)]; omega
                      have hal10_5 : AW (t10 13 5) 0 (sha p1 (A.1 sp3)) := by rw [hf10 13 5 (by decide)]; exact h59
                      have hc410 : t10 10 0 4 = 1 := Eq.trans (by rw [hf10 10 0 (by decide)]) hck9.1
                      have hz10 := hz9.k (t := t10) (by rw [hf10 10 0 (by decide)])
                      refine v_iload hX 0 rfl (atL dAX8_hide_1 11 rfl) ?_
                      refine v_iload hX 2 rfl (atL dAX8_hide_1 12 rfl) ?_
                      refine v_icmp_ge hX ⟨by omega, by omega⟩ ⟨by omega, by omega⟩ (tgt := 185) (atL dAX8_hide_1 13 rfl) (by decide) (fun h134 => ?_) (fun h134 => absurd h134 (by omega))
                      refine v_aload_n hX 4 rfl (atL dAX8_hide_1 42 rfl) ?_
                      refine gf_X8_147 hX hk0 (atL dAX8_hide_1 43 rfl) ?_
                      refine v_iload hX 3 rfl (atL dAX8_hide_1 44 rfl) ?_
                      refine v_iload hX 1 rfl (atL dAX8_hide_1 45 rfl) ?_
                      refine v_isub hX (iI_sub _ _) (atL dAX8_hide_1 46 rfl) ?_
                      refine v_iconst hX (atL dAX8_hide_1 47 rfl) ?_
                      refine v_isub hX (iI_sub _ _) (atL dAX8_hide_1 48 rfl) ?_
                      refine v_iconst hX (atL dAX8_hide_1 49 rfl) ?_
                      refine v_iast hX (c := 13) ((nby (K 0) - lsp2 - 1)) (hQ16 13 (by simp [mn, tp])) (by decide) (fun _ _ => rfl) (by omega) (show nby (K 0) - lsp2 - 1 < 600 by omega) (by decide) (atL dAX8_hide_1 50 rfl) ?_
                      refine v_iconst hX (atL dAX8_hide_1 51 rfl) ?_
                      refine v_istore hX (lv' := [(10, .int (iI (0))), (9, .int (iI (((lsp2 : Nat) : Int)))), (8, .int (iI ((hl p1 : Int)))), (7, .int (iI (((nby (K 0) : Nat) : Int)))), (0, .ref (w.1 13 0)), (1, .int (iI ((kx : Int)))), (2, .int (iI (p1))), (3, .int (iI ((sp2 : Int)))), (4, .int (iI ((sp3 : Int)))), (5, .int (iI ((sp4 : Int)))), (6, .int (iI ((sp5 : Int))))]) (Nat.le_of_ble_eq_true rfl) rfl (atL dAX8_hide_1 52 rfl) ?_
                      obtain ⟨b11, hb11⟩ : ∃ q, q = (su t10 13 13 ((nby (K 0) - lsp2 - 1)) 1) := ⟨_, rfl⟩
                      rw [← hb11]
                      have hA11 : AN b11 := by rw [hb11]; exact (hA10.s1 (by decide))
                      have hG11 : FG σ b11 := by rw [hb11]; exact (hG10.sa rfl)
                      have hD11 : DG b11 := by rw [hb11]; exact (hD10.sa (by decide) (by decide))
                      have ht11 : b11 10 0 0 = 0 := by rw [hb11, su_c (by decide)]; omega
                      have hal11_5 : AW (b11 13 5) 0 (sha p1 (A.1 sp3)) := by rw [hb11, su_ri (by decide)]; exact hal10_5
                      have hc411 : b11 10 0 4 = 1 := Eq.trans (by rw [hb11, su_c (by decide)]) hc410
                      have hz11 := hz10.k (t := b11) (by rw [hb11, su_c (by decide)])
                      have loop12 : ∀ (d j : Nat) (t12 : St), j + d = lsp2 → t12 13 13 = cp (b11 13 13) (nby (K 0) - lsp2) j (fun q => (((A.1 sp2).getD q 0 : Nat) : Int)) → Fr [(13, 13)] b11 t12 → V X z9 w 201 [(10, .int (iI ((j : Int)))), (9, .int (iI (((lsp2 : Nat) : Int)))), (8, .int (iI ((hl p1 : Int)))), (7, .int (iI (((nby (K 0) : Nat) : Int)))), (0, .ref (w.1 13 0)), (1, .int (iI ((kx : Int)))), (2, .int (iI (p1))), (3, .int (iI ((sp2 : Int)))), (4, .int (iI ((sp3 : Int)))), (5, .int (iI ((sp4 : Int)))), (6, .int (iI ((sp5 : Int))))] t12 [] := by
                        intro d
                        induction d with
                        | zero =>
                          intro j t12 hj hc12 hf12
                          have hjN : j = lsp2 := by omega
                          subst j
                          have hA12 := hA11.fp hf12 rfl
                          have hG12 := hG11.fr hf12 rfl (by decide)
                          have hD12 := hD11.fr hf12 (by decide) (by decide) (by decide)
                          have ht12 : t12 10 0 0 = 0 := by rw [hf12 10 0 (by decide)]; omega
                          have hal12_5 : AW (t12 13 5) 0 (sha p1 (A.1 sp3)) := by rw [hf12 13 5 (by decide)]; exact hal11_5
                          have hc412 : t12 10 0 4 = 1 := Eq.trans (by rw [hf12 10 0 (by decide)]) hc411
                          have hz12 := hz11.k (t := t12) (by rw [hf12 10 0 (by decide)])
                          have hF0l : ([0] ++ A.1 sp4 ++ (sha p1 (A.1 sp3) ++ List.replicate (nby (K 0) - 2 * hl p1 - 2 - (A.1 sp2).length) 0 ++ [1] ++ A.1 sp2)).length = nby (K 0) := by simp only [List.length_append, List.length_cons, List.length_nil, List.length_replicate, sha_len, hlsp2, hlsp4]; omega
                          have hF0b : BY ([0] ++ A.1 sp4 ++ (sha p1 (A.1 sp3) ++ List.replicate (nby (K 0) - 2 * hl p1 - 2 - (A.1 sp2).length) 0 ++ [1] ++ A.1 sp2)) := ((BY.one (by omega)).app (hM.1.by (by omega))).app (((BY.app sha_lt (BY.rep (by omega))).app (BY.one (by omega))).app (hM.1.by (by omega)))
                          have hz0 : ∀ q, q < nby (K 0) → s9 13 13 q = 0 := fun q hq => by rw [hal9_13.get (by rw [List.length_replicate]; exact hq), gD_rep, if_pos hq]; rfl
                          have hfin : AW (t12 13 13) 0 ([0] ++ A.1 sp4 ++ (sha p1 (A.1 sp3) ++ List.replicate (nby (K 0) - 2 * hl p1 - 2 - (A.1 sp2).length) 0 ++ [1] ++ A.1 sp2)) := by
                            refine AW.of (fun q hq => ?_)
                            rw [hF0l] at hq
                            rw [hide0_get, sha_len, hlsp2, hlsp4]
                            simp only [hc12, cp, hb11, su_e, hc10, cp2]
                            repeat' split
                            all_goals first | rfl | omega | (congr 2; omega) | (congr 3; omega) | (exfalso; omega) | exact hz0 q hq
                          have hA1l : ([0] ++ A.1 sp4).length = 1 + hl p1 := by rw [List.length_append, hlsp4]; show 1 + _ = _; omega
                          have hHDl : (hideD p1 (nby (K 0)) (A.1 sp2) (A.1 sp3) (A.1 sp4)).length = nby (K 0) - hl p1 - 1 := hideD_len (by rw [hlsp2]; omega)
                          refine v_iload hX 0 rfl (atL dAX8_hide_1 53 rfl) ?_
                          refine v_iload hX 1 rfl (atL dAX8_hide_1 54 rfl) ?_
                          refine v_icmp_ge hX ⟨by omega, by omega⟩ ⟨by omega, by omega⟩ (tgt := 240) (atL dAX8_hide_1 55 rfl) (by decide) (fun h205 => ?_) (fun h205 => absurd h205 (by omega))
                          refine v_aload_n hX 4 rfl (atL dAX8_hide_2 14 rfl) ?_
                          refine v_iload_n hX 6 rfl (atL dAX8_hide_2 15 rfl) ?_
                          refine v_aload_n hX 4 rfl (atL dAX8_hide_2 16 rfl) ?_
                          refine gf_X8_147 hX hk0 (atL dAX8_hide_2 17 rfl) ?_
                          refine v_iconst hX (atL dAX8_hide_2 18 rfl) ?_
                          refine v_iload hX 2 rfl (atL dAX8_hide_2 19 rfl) ?_
                          refine v_iload hX 3 rfl (atL dAX8_hide_2 20 rfl) ?_
                          refine v_iload hX 2 rfl (atL dAX8_hide_2 21 rfl) ?_
                          refine v_isub hX (iI_sub _ _) (atL dAX8_hide_2 22 rfl) ?_
                          refine v_iconst hX (atL dAX8_hide_2 23 rfl) ?_
                          refine v_isub hX (iI_sub _ _) (atL dAX8_hide_2 24 rfl) ?_
                          rw [show (((((nby (K 0) : Nat) : Int)) - ((hl p1 : Int))) - 1) = ((nby (K 0) - hl p1 - 1 : Nat) : Int) from (by omega)]
                          refine v_callVM hX (As := [.int (iI (p1)), .ref (w.1 16 13), .int (iI (1)), .int (iI ((hl p1 : Int))), .int (iI (((nby (K 0) - hl p1 - 1 : Nat) : Int)))]) (rest := []) (c_X8_masks (xl X) w t12 hk0 hw19 hD12 p1 hh 13 (hQ16 13 (by simp [mn, tp])) (by decide) (A.1 sp4) 1 (hl p1) (by rw [hlsp4]; omega) (show AW _ 1 _ from (hfin.app).1.app.2) (by show _ ≤ 600; omega) (by omega) (nby (K 0) - hl p1 - 1) (by omega)) lk_X8_354 hk0 (fun _ => rfl) rfl rfl rfl (by rw [hR]; exact ⟨Nat.le_of_ble_eq_true rfl, Nat.le_of_ble_eq_true rfl⟩) (by rw [hR]; exact hz12) rfl (Nat.le_of_ble_eq_true rfl) (atL dAX8_hide_2 25 rfl) (fun _ s13 e13 => ?_)
                          obtain ⟨hm13, hD13, hck13, hg13⟩ := e13
                          have hz13 := hz12.d (hck13.resolve_left (by omega))
                          generalize (z9.1 + kap t12 * 10360, z9.2 + kap t12 * 103600) = z13 at hz13 ⊢
                          have hal13_13 : AW (s13 13 13) 0 ([0] ++ A.1 sp4 ++ (sha p1 (A.1 sp3) ++ List.replicate (nby (K 0) - 2 * hl p1 - 2 - (A.1 sp2).length) 0 ++ [1] ++ A.1 sp2)) := by rw [hg13.1 13 13 (by decide)]; exact hfin
                          have hG13 := FMk.fg hG12 hg13
                          have hA13 := hA12.fp hg13.1 rfl
                          have ht13 : s13 10 0 0 = 0 := by rw [hg13.2 0 (by decide) (by decide)]; omega
                          show V X _ w _ _ s13 []
                          refine v_aload_n hX 4 rfl (atL dAX8_hide_2 26 rfl) ?_
                          refine v_iconst hX (atL dAX8_hide_2 27 rfl) ?_
                          refine v_iload hX 2 rfl (atL dAX8_hide_2 28 rfl) ?_
                          refine v_iadd hX (iI_add _ _) (atL dAX8_hide_2 29 rfl) ?_
                          rw [show (1 + ((hl p1 : Int))) = ((1 + hl p1 : Nat) : Int) from (by omega)]
                          refine v_iload hX 3 rfl (atL dAX8_hide_2 30 rfl) ?_
                          refine v_iload hX 2 rfl (atL dAX8_hide_2 31 rfl) ?_
                          refine v_isub hX (iI_sub _ _) (atL dAX8_hide_2 32 rfl) ?_
                          refine v_iconst hX (atL dAX8_hide_2 33 rfl) ?_
                          refine v_isub hX (iI_sub _ _) (atL dAX8_hide_2 34 rfl) ?_
                          rw [show (((((nby (K 0) : Nat) : Int)) - ((hl p1 : Int))) - 1) = ((nby (K 0) - hl p1 - 1 : Nat) : Int) from (by omega)]
                          refine v_callV hX (As := [.int (iI (((1 + hl p1 : Nat) : Int))), .int (iI (((nby (K 0) - hl p1 - 1 : Nat) : Int)))]) (rest := []) (c_X8_crosses (xl X) w s13 hk0 ([0] ++ A.1 sp4 ++ (sha p1 (A.1 sp3) ++ List.replicate (nby (K 0) - 2 * hl p1 - 2 - (A.1 sp2).length) 0 ++ [1] ++ A.1 sp2)) (msk p1 (A.1 sp4) (nby (K 0) - hl p1 - 1)) hal13_13 hF0b hm13 (msk_by : BY (msk p1 (A.1 sp4) (nby (K 0) - hl p1 - 1))) ((1 + hl p1)) (nby (K 0) - hl p1 - 1) (by rw [hF0l]; omega) (by rw [(msk_len : (msk p1 (A.1 sp4) (nby (K 0) - hl p1 - 1)).length = nby (K 0) - hl p1 - 1)]; omega) (by rw [hF0l]; omega) (by rw [(msk_len : (msk p1 (A.1 sp4) (nby (K 0) - hl p1 - 1)).length = nby (K 0) - hl p1 - 1)]; omega)) lk_X8_383 hk0 (fun _ => rfl) rfl rfl rfl (by rw [hR]; exact ⟨Nat.le_of_ble_eq_true rfl, Nat.le_of_ble_eq_true rfl⟩) (by rw [hR]; exact hz13.b) rfl (Nat.le_of_ble_eq_true rfl) (atL dAX8_hide_2 35 rfl) (fun _ s14 e14 => ?_)
                          obtain ⟨hcr14, hf14⟩ := e14
                          have hcl14 : (crs ([0] ++ A.1 sp4 ++ (sha p1 (A.1 sp3) ++ List.replicate (nby (K 0) - 2 * hl p1 - 2 - (A.1 sp2).length) 0 ++ [1] ++ A.1 sp2)) ((1 + hl p1)) (nby (K 0) - hl p1 - 1) (msk p1 (A.1 sp4) (nby (K 0) - hl p1 - 1))).length = nby (K 0) := by rw [crs_len (by rw [hF0l]; omega), hF0l]
                          have hA14 := hA13.fp hf14 rfl
                          have hG14 := hG13.fr hf14 rfl (by decide)
                          have hD14 := hD13.fr hf14 (by decide) (by decide) (by decide)
                          have ht14 : s14 10 0 0 = 0 := by rw [hf14 10 0 (by decide)]; omega
                          have hal14_10 : AW (s14 13 10) 0 (msk p1 (A.1 sp4) (nby (K 0) - hl p1 - 1)) := by rw [hf14 13 10 (by decide)]; exact hm13
                          have hc414 : s14 10 0 4 = 1 := Eq.trans (by rw [hf14 10 0 (by decide)]) (hck13.resolve_left (by omega)).1
                          have hz14 := hz13.k (t := s14) (by rw [hf14 10 0 (by decide)])
                          show V X _ w _ _ s14 []
                          have hcA : crs ([0] ++ A.1 sp4 ++ (sha p1 (A.1 sp3) ++ List.replicate (nby (K 0) - 2 * hl p1 - 2 - (A.1 sp2).length) 0 ++ [1] ++ A.1 sp2)) ((1 + hl p1)) (nby (K 0) - hl p1 - 1) (msk p1 (A.1 sp4) (nby (K 0) - hl p1 - 1)) = [0] ++ A.1 sp4 ++ hideD p1 (nby (K 0)) (A.1 sp2) (A.1 sp3) (A.1 sp4) := by rw [crs_app2 hA1l (by simp only [List.length_append, List.length_cons, List.length_nil, List.length_replicate, sha_len, hlsp2]; omega)]; rfl
                          have hAW1 := hcr14
                          have hl91 := hcl14
                          have hb91 : BY (crs ([0] ++ A.1 sp4 ++ (sha p1 (A.1 sp3) ++ List.replicate (nby (K 0) - 2 * hl p1 - 2 - (A.1 sp2).length) 0 ++ [1] ++ A.1 sp2)) ((1 + hl p1)) (nby (K 0) - hl p1 - 1) (msk p1 (A.1 sp4) (nby (K 0) - hl p1 - 1))) := (crs_by hF0b (msk_by : BY (msk p1 (A.1 sp4) (nby (K 0) - hl p1 - 1))))
                          rw [hcA] at hAW1 hl91 hb91
                          refine v_aload_n hX 4 rfl (atL dAX8_hide_2 36 rfl) ?_
                          refine v_iload_n hX 6 rfl (atL dAX8_hide_2 37 rfl) ?_
                          refine v_aload_n hX 4 rfl (atL dAX8_hide_2 38 rfl) ?_
                          refine gf_X8_147 hX hk0 (atL dAX8_hide_2 39 rfl) ?_
                          refine v_iconst hX (atL dAX8_hide_2 40 rfl) ?_
                          refine v_iload hX 2 rfl (atL dAX8_hide_2 41 rfl) ?_
                          refine v_iadd hX (iI_add _ _) (atL dAX8_hide_2 42 rfl) ?_
                          rw [show (1 + ((hl p1 : Int))) = ((1 + hl p1 : Nat) : Int) from (by omega)]
                          refine v_iload hX 3 rfl (atL dAX8_hide_2 43 rfl) ?_
                          refine v_iload hX 2 rfl (atL dAX8_hide_2 44 rfl) ?_
                          refine v_isub hX (iI_sub _ _) (atL dAX8_hide_2 45 rfl) ?_
                          refine v_iconst hX (atL dAX8_hide_2 46 rfl) ?_
                          refine v_isub hX (iI_sub _ _) (atL dAX8_hide_2 47 rfl) ?_
                          rw [show (((((nby (K 0) : Nat) : Int)) - ((hl p1 : Int))) - 1) = ((nby (K 0) - hl p1 - 1 : Nat) : Int) from (by omega)]
                          refine v_iload hX 2 rfl (atL dAX8_hide_2 48 rfl) ?_
                          refine v_callVM hX (As := [.int (iI (p1)), .ref (w.1 16 13), .int (iI (((1 + hl p1 : Nat) : Int))), .int (iI (((nby (K 0) - hl p1 - 1 : Nat) : Int))), .int (iI ((hl p1 : Int)))]) (rest := []) (c_X8_masks (xl X) w s14 hk0 hw19 hD14 p1 hh 13 (hQ16 13 (by simp [mn, tp])) (by decide) (hideD p1 (nby (K 0)) (A.1 sp2) (A.1 sp3) (A.1 sp4)) ((1 + hl p1)) (nby (K 0) - hl p1 - 1) hHDl (by have h9 := (hAW1).app.2; rw [hA1l, Nat.zero_add] at h9; exact h9) (by show _ ≤ 600; omega) (by omega) (hl p1) (by omega)) lk_X8_354 hk0 (fun _ => rfl) rfl rfl rfl (by rw [hR]; exact ⟨Nat.le_of_ble_eq_true rfl, Nat.le_of_ble_eq_true rfl⟩) (by rw [hR]; exact hz14) rfl (Nat.le_of_ble_eq_true rfl) (atL dAX8_hide_2 49 rfl) (fun _ s15 e15 => ?_)
                          obtain ⟨hm15, hD15, hck15, hg15⟩ := e15
                          have hz15 := hz14.d (hck15.resolve_left (by omega))
                          generalize (z13.1 + kap s14 * 10360, z13.2 + kap s14 * 103600) = z15 at hz15 ⊢
                          have hal15_13 : AW (s15 13 13) 0 ([0] ++ A.1 sp4 ++ hideD p1 (nby (K 0)) (A.1 sp2) (A.1 sp3) (A.1 sp4)) := by rw [hg15.1 13 13 (by decide)]; exact hAW1
                          have hG15 := FMk.fg hG14 hg15
                          have hA15 := hA14.fp hg15.1 rfl
                          have ht15 : s15 10 0 0 = 0 := by rw [hg15.2 0 (by decide) (by decide)]; omega
                          show V X _ w _ _ s15 []
                          refine v_aload_n hX 4 rfl (atL dAX8_hide_2 50 rfl) ?_
                          refine v_iconst hX (atL dAX8_hide_2 51 rfl) ?_
                          refine v_iload hX 2 rfl (atL dAX8_hide_2 52 rfl) ?_
                          refine v_callV hX (As := [.int (iI (1)), .int (iI ((hl p1 : Int)))]) (rest := []) (c_X8_crosses (xl X) w s15 hk0 ([0] ++ A.1 sp4 ++ hideD p1 (nby (K 0)) (A.1 sp2) (A.1 sp3) (A.1 sp4)) (msk p1 (hideD p1 (nby (K 0)) (A.1 sp2) (A.1 sp3) (A.1 sp4)) (hl p1)) hal15_13 hb91 hm15 (msk_by : BY (msk p1 (hideD p1 (nby (K 0)) (A.1 sp2) (A.1 sp3) (A.1 sp4)) (hl p1))) 1 (hl p1) (by rw [hl91]; omega) (by rw [(msk_len : (msk p1 (hideD p1 (nby (K 0)) (A.1 sp2) (A.1 sp3) (A.1 sp4)) (hl p1)).length = hl p1)]; omega) (by rw [hl91]; omega) (by rw [(msk_len : (msk p1 (hideD p1 (nby (K 0)) (A.1 sp2) (A.1 sp3) (A.1 sp4)) (hl p1)).length = hl p1)]; omega)) lk_X8_383 hk0 (fun _ => rfl) rfl rfl rfl (by rw [hR]; exact ⟨Nat.le_of_ble_eq_true rfl, Nat.le_of_ble_eq_true rfl⟩) (by rw [hR]; exact hz15.b) rfl (Nat.le_of_ble_eq_true rfl) (atL dAX8_hide_2 53 rfl) (fun _ s16 e16 => ?_)
                          obtain ⟨hcr16, hf16⟩ := e16
                          have hcl16 : (crs ([0] ++ A.1 sp4 ++ hideD p1 (nby (K 0)) (A.1 sp2) (A.1 sp3) (A.1 sp4)) 1 (hl p1) (msk p1 (hideD p1 (nby (K 0)) (A.1 sp2) (A.1 sp3) (A.1 sp4)) (hl p1))).length = nby (K 0) := by rw [crs_len (by rw [hl91]; omega), hl91]
                          have hA16 := hA15.fp hf16 rfl
                          have hG16 := hG15.fr hf16 rfl (by decide)
                          have hD16 := hD15.fr hf16 (by decide) (by decide) (by decide)
                          have ht16 : s16 10 0 0 = 0 := by rw [hf16 10 0 (by decide)]; omega
                          have hal16_10 : AW (s16 13 10) 0 (msk p1 (hideD p1 (nby (K 0)) (A.1 sp2) (A.1 sp3) (A.1 sp4)) (hl p1)) := by rw [hf16 13 10 (by decide)]; exact hm15
                          have hc416 : s16 10 0 4 = 1 := Eq.trans (by rw [hf16 10 0 (by decide)]) (hck15.resolve_left (by omega)).1
                          have hz16 := hz15.k (t := s16) (by rw [hf16 10 0 (by decide)])
                          show V X _ w _ _ s16 []
                          have hcB : crs ([0] ++ A.1 sp4 ++ hideD p1 (nby (K 0)) (A.1 sp2) (A.1 sp3) (A.1 sp4)) 1 (hl p1) (msk p1 (hideD p1 (nby (K 0)) (A.1 sp2) (A.1 sp3) (A.1 sp4)) (hl p1)) = hideL p1 (nby (K 0)) (A.1 sp2) (A.1 sp3) (A.1 sp4) := by rw [crs_app (A := [0]) (o := 1) rfl (by rw [hlsp4]; omega), mix_comm (by rw [msk_len, hlsp4]; omega)]; rfl
                          have hAW2 := hcr16
                          have hl92 := hcl16
                          have hb92 : BY (crs ([0] ++ A.1 sp4 ++ hideD p1 (nby (K 0)) (A.1 sp2) (A.1 sp3) (A.1 sp4)) 1 (hl p1) (msk p1 (hideD p1 (nby (K 0)) (A.1 sp2) (A.1 sp3) (A.1 sp4)) (hl p1))) := (crs_by hb91 (msk_by : BY (msk p1 (hideD p1 (nby (K 0)) (A.1 sp2) (A.1 sp3) (A.1 sp4)) (hl p1))))
                          rw [hcB] at hAW2 hl92 hb92
                          refine v_aload_n hX 4 rfl (atL dAX8_hide_2 54 rfl) ?_
                          refine v_iload_n hX 5 rfl (atL dAX8_hide_2 55 rfl) ?_
                          refine v_iconst hX (atL dAX8_hide_2 56 rfl) ?_
                          refine v_iload hX 3 rfl (atL dAX8_hide_2 57 rfl) ?_
                          refine v_iload hX 10 rfl (atL dAX8_hide_2 58 rfl) ?_
                          have hM1q := (hM.same hG16 hA16 hD16).up1 hc416
                          refine v_callV hX (As := [.int (iI ((kx : Int))), .int (iI (1)), .int (iI (((nby (K 0) : Nat) : Int))), .int (iI ((sp5 : Int)))]) (rest := []) (letI : Gh := gh1; c_X8_padded (xl X) w s16 hk0 A hM1q (by omega) kx (by omega) P K (hK.fg hG16) 0 (by omega) (hideL p1 (nby (K 0)) (A.1 sp2) (A.1 sp3) (A.1 sp4)) (nby (K 0)) hl92 hAW2 hb92 (by omega) sp5 (by omega)) lk_X8_387 hk0 (fun _ => rfl) rfl rfl rfl (by rw [hR]; exact ⟨Nat.le_of_ble_eq_true rfl, Nat.le_of_ble_eq_true rfl⟩) (by rw [hR]; exact hz16.b) rfl (Nat.le_of_ble_eq_true rfl) (atL dAX8_hide_2 59 rfl) (fun r17 s17 e17 => ?_)
                          show V X _ w _ _ s17 [.int (iI (r17))]
                          exact v_iret hX (atL dAX8_hide_3 0 rfl) ((hret _ _ (by obtain ⟨e1, e2, e3, e4⟩ := e17; exact ⟨_, by rw [e2, e1]; unfold f_hide; simp only [Int.toNat_natCast, hPe, hKe]; rw [if_neg (by omega), if_neg (by omega), if_neg (by rw [hlsp2]; omega), if_neg (by rw [hlsp4]; omega)], e3.dn, hG16.fc.tr e4⟩) _ (hz16.k (by obtain ⟨e1, e2, e3, e4⟩ := e17; exact e3.c1.trans hc416.symm))))
                        | succ d ih =>
                          intro j t12 hj hc12 hf12
                          have hsj : t12 13 0 (256 * sp2 + j) = (((A.1 sp2).getD j 0 : Nat) : Int) := by rw [hf12 13 0 (by decide)]; exact ((hM.1.fg hG11).1 sp2 (by omega)).1.2.2 j (by rw [hlsp2]; omega)
                          refine v_iload hX 0 rfl (atL dAX8_hide_1 53 rfl) ?_
                          refine v_iload hX 1 rfl (atL dAX8_hide_1 54 rfl) ?_
                          refine v_icmp_ge hX ⟨by omega, by omega⟩ ⟨by omega, by omega⟩ (tgt := 240) (atL dAX8_hide_1 55 rfl) (by decide) (fun h205 => absurd h205 (by omega)) (fun h205 => ?_)
                          refine v_aload_n hX 4 rfl (atL dAX8_hide_1 56 rfl) ?_
                          refine gf_X8_147 hX hk0 (atL dAX8_hide_1 57 rfl) ?_
                          refine v_iload hX 3 rfl (atL dAX8_hide_1 58 rfl) ?_
                          refine v_iload hX 1 rfl (atL dAX8_hide_1 59 rfl) ?_
                          refine v_isub hX (iI_sub _ _) (atL dAX8_hide_2 0 rfl) ?_
                          refine v_iload hX 0 rfl (atL dAX8_hide_2 1 rfl) ?_
                          refine v_iadd hX (iI_add _ _) (atL dAX8_hide_2 2 rfl) ?_
                          refine v_aload_n hX 4 rfl (atL dAX8_hide_2 3 rfl) ?_
                          refine gf_X8_67 hX hk0 (atL dAX8_hide_2 4 rfl) ?_
                          refine v_sipush hX (by decide +kernel) (atL dAX8_hide_2 5 rfl) ?_
                          refine v_iload_n hX 7 rfl (atL dAX8_hide_2 6 rfl) ?_
                          refine v_imul hX (iI_mul _ _) (atL dAX8_hide_2 7 rfl) ?_
                          refine v_iload hX 0 rfl (atL dAX8_hide_2 8 rfl) ?_
                          refine v_iadd hX (iI_add _ _) (atL dAX8_hide_2 9 rfl) ?_
                          refine v_iald hX (r := iI ((((A.1 sp2).getD j 0 : Nat) : Int))) ((256 * sp2 + j)) (hQ16 0 (by simp [mn, tp])) (fun _ => rfl) (by omega) (show 256 * sp2 + j < 6144 by omega) (by decide) (congrArg iI hsj) (atL dAX8_hide_2 10 rfl) ?_
                          refine v_iast hX (c := 13) ((nby (K 0) - lsp2 + j)) (hQ16 13 (by simp [mn, tp])) (by decide) (fun _ _ => rfl) (by omega) (show nby (K 0) - lsp2 + j < 600 by omega) (by decide) (atL dAX8_hide_2 11 rfl) ?_
                          refine v_iinc hX (lv' := [(10, .int (iI (((j : Int)) + 1))), (9, .int (iI (((lsp2 : Nat) : Int)))), (8, .int (iI ((hl p1 : Int)))), (7, .int (iI (((nby (K 0) : Nat) : Int)))), (0, .ref (w.1 13 0)), (1, .int (iI ((kx : Int)))), (2, .int (iI (p1))), (3, .int (iI ((sp2 : Int)))), (4, .int (iI ((sp3 : Int)))), (5, .int (iI ((sp4 : Int)))), (6, .int (iI ((sp5 : Int))))]) 0 rfl (iI_add _ _) (Nat.le_of_ble_eq_true rfl) rfl (atL dAX8_hide_2 12 rfl) ?_
                          refine v_goto hX (tgt := 201) (atL dAX8_hide_2 13 rfl) (by decide) ?_
                          refine v_sub (lv' := [(10, .int (iI (((j : Int)) + 1))), (9, .int (iI (((lsp2 : Nat) : Int)))), (8, .int (iI ((hl p1 : Int)))), (7, .int (iI (((nby (K 0) : Nat) : Int)))), (0, .ref (w.1 13 0)), (1, .int (iI ((kx : Int)))), (2, .int (iI (p1))), (3, .int (iI ((sp2 : Int)))), (4, .int (iI ((sp3 : Int)))), (5, .int (iI ((sp4 : Int)))), (6, .int (iI ((sp5 : Int))))]) [0, 1, 2, 3, 4, 5, 6, 7, 8, 9, 10] rfl ?_
                          rw [show (j : Int) + 1 = ((j + 1 : Nat) : Int) by omega]
                          exact ih (j + 1) _ (by omega) (cp_s hc12 rfl) (hf12.tr' (Fr.su (by simp)))
                      refine v_sub (lv' := [(10, .int (iI (0))), (9, .int (iI (((lsp2 : Nat) : Int)))), (8, .int (iI ((hl p1 : Int)))), (7, .int (iI (((nby (K 0) : Nat) : Int)))), (0, .ref (w.1 13 0)), (1, .int (iI ((kx : Int)))), (2, .int (iI (p1))), (3, .int (iI ((sp2 : Int)))), (4, .int (iI ((sp3 : Int)))), (5, .int (iI ((sp4 : Int)))), (6, .int (iI ((sp5 : Int))))]) [0, 1, 2, 3, 4, 5, 6, 7, 8, 9, 10] rfl ?_
                      exact loop12 (lsp2) 0 b11 (by omega) cp_0.symm Fr.rf
                    | succ d ih =>
                      intro j t10 hj hc10 hf10
                      have hsj : t10 13 0 (256 * sp4 + j) = (((A.1 sp4).getD j 0 : Nat) : Int) := by rw [hf10 13 0 (by decide)]; exact ((hM.1.fg hG9).1 sp4 (by omega)).1.2.2 j (by rw [hlsp4]; omega)
                      have hdj : t10 13 5 j = (((sha p1 (A.1 sp3)).getD j 0 : Nat) : Int) := by rw [hf10 13 5 (by decide)]; exact h59.get (by rw [sha_len]; omega)
                      refine v_iload hX 0 rfl (atL dAX8_hide_1 11 rfl) ?_
                      refine v_iload hX 2 rfl (atL dAX8_hide_1 12 rfl) ?_
                      refine v_icmp_ge hX ⟨by omega, by omega⟩ ⟨by omega, by omega⟩ (tgt := 185) (atL dAX8_hide_1 13 rfl) (by decide) (fun h134 => absurd h134 (by omega)) (fun h134 => ?_)
                      refine v_aload_n hX 4 rfl (atL dAX8_hide_1 14 rfl) ?_
                      refine gf_X8_147 hX hk0 (atL dAX8_hide_1 15 rfl) ?_
                      refine v_iconst hX (atL dAX8_hide_1 16 rfl) ?_
                      refine v_iload hX 0 rfl (atL dAX8_hide_1 17 rfl) ?_
                      refine v_iadd hX (iI_add _ _) (atL dAX8_hide_1 18 rfl) ?_
                      refine v_aload_n hX 4 rfl (atL dAX8_hide_1 19 rfl) ?_
                      refine gf_X8_67 hX hk0 (atL dAX8_hide_1 20 rfl) ?_
                      refine v_sipush hX (by decide +kernel) (atL dAX8_hide_1 21 rfl) ?_
                      refine v_iload hX 9 rfl (atL dAX8_hide_1 22 rfl) ?_
                      refine v_imul hX (iI_mul _ _) (atL dAX8_hide_1 23 rfl) ?_
                      refine v_iload hX 0 rfl (atL dAX8_hide_1 24 rfl) ?_
                      refine v_iadd hX (iI_add _ _) (atL dAX8_hide_1 25 rfl) ?_
                      refine v_iald hX (r := iI ((((A.1 sp4).getD j 0 : Nat) : Int))) ((256 * sp4 + j)) (hQ16 0 (by simp [mn, tp])) (fun _ => rfl) (by omega) (show 256 * sp4 + j < 6144 by omega) (by decide) (congrArg iI hsj) (atL dAX8_hide_1 26 rfl) ?_
                      refine v_iast hX (c := 13) ((1 + j)) (hQ16 13 (by simp [mn, tp])) (by decide) (fun _ _ => rfl) (by omega) (show 1 + j < 600 by omega) (by decide) (atL dAX8_hide_1 27 rfl) ?_
                      refine v_aload_n hX 4 rfl (atL dAX8_hide_1 28 rfl) ?_
                      refine gf_X8_147 hX hk0 (atL dAX8_hide_1 29 rfl) ?_
                      refine v_iconst hX (atL dAX8_hide_1 30 rfl) ?_
                      refine v_iload hX 2 rfl (atL dAX8_hide_1 31 rfl) ?_
                      refine v_iadd hX (iI_add _ _) (atL dAX8_hide_1 32 rfl) ?_
                      refine v_iload hX 0 rfl (atL dAX8_hide_1 33 rfl) ?_
                      refine v_iadd hX (iI_add _ _) (atL dAX8_hide_1 34 rfl) ?_
                      refine v_aload_n hX 4 rfl (atL dAX8_hide_1 35 rfl) ?_
                      refine gf_X8_98 hX hk0 (atL dAX8_hide_1 36 rfl) ?_
                      refine v_iload hX 0 rfl (atL dAX8_hide_1 37 rfl) ?_
                      refine v_iald hX (r := iI ((((sha p1 (A.1 sp3)).getD j 0 : Nat) : Int))) j (hQ16 5 (by simp [mn, tp])) (fun _ => rfl) rfl (show j < 32 by omega) (by decide) (congrArg iI ((su_i (by decide)).trans hdj)) (atL dAX8_hide_1 38 rfl) ?_
                      refine v_iast hX (c := 13) ((1 + hl p1 + j)) (hQ16 13 (by simp [mn, tp])) (by decide) (fun _ _ => rfl) (by omega) (show 1 + hl p1 + j < 600 by omega) (by decide) (atL dAX8_hide_1 39 rfl) ?_
                      refine v_iinc hX (lv' := [(10, .int (iI (((j : Int)) + 1))), (9, .int (iI (((lsp2 : Nat) : Int)))), (8, .int (iI ((hl p1 : Int)))), (7, .int (iI (((nby (K 0) : Nat) : Int)))), (0, .ref (w.1 13 0)), (1, .int (iI ((kx : Int)))), (2, .int (iI (p1))), (3, .int (iI ((sp2 : Int)))), (4, .int (iI ((sp3 : Int)))), (5, .int (iI ((sp4 : Int)))), (6, .int (iI ((sp5 : Int))))]) 0 rfl (iI_add _ _) (Nat.le_of_ble_eq_true rfl) rfl (atL dAX8_hide_1 40 rfl) ?_
                      refine v_goto hX (tgt := 130) (atL dAX8_hide_1 41 rfl) (by decide) ?_
                      refine v_sub (lv' := [(10, .int (iI (((j : Int)) + 1))), (9, .int (iI (((lsp2 : Nat) : Int)))), (8, .int (iI ((hl p1 : Int)))), (7, .int (iI (((nby (K 0) : Nat) : Int)))), (0, .ref (w.1 13 0)), (1, .int (iI ((kx : Int)))), (2, .int (iI (p1))), (3, .int (iI ((sp2 : Int)))), (4, .int (iI ((sp3 : Int)))), (5, .int (iI ((sp4 : Int)))), (6, .int (iI ((sp5 : Int))))]) [0, 1, 2, 3, 4, 5, 6, 7, 8, 9, 10] rfl ?_
                      rw [show (j : Int) + 1 = ((j + 1 : Nat) : Int) by omega]
                      exact ih (j + 1) _ (by omega) (cp2_s hc10 rfl rfl (by omega)) ((hf10.tr' (Fr.su (by simp))).tr' (Fr.su (by simp)))
                  refine v_sub (lv' := [(10, .int (iI (0))), (9, .int (iI (((lsp2 : Nat) : Int)))), (8, .int (iI ((hl p1 : Int)))), (7, .int (iI (((nby (K 0) : Nat) : Int)))), (0, .ref (w.1 13 0)), (1, .int (iI ((kx : Int)))), (2, .int (iI (p1))), (3, .int (iI ((sp2 : Int)))), (4, .int (iI ((sp3 : Int)))), (5, .int (iI ((sp4 : Int)))), (6, .int (iI ((sp5 : Int))))]) [0, 1, 2, 3, 4, 5, 6, 7, 8, 9, 10] rfl ?_
                  exact loop10 (hl p1) 0 s9 (by omega) cp2_0.symm Fr.rf
                | succ d ih =>
                  intro j t7 hj hc7 hf7
                  refine v_iload hX 0 rfl (atL dAX8_hide_0 53 rfl) ?_
                  refine v_iload hX 3 rfl (atL dAX8_hide_0 54 rfl) ?_
                  refine v_icmp_ge hX ⟨by omega, by omega⟩ ⟨by omega, by omega⟩ (tgt := 116) (atL dAX8_hide_0 55 rfl) (by decide) (fun h99 => absurd h99 (by omega)) (fun h99 => ?_)
                  refine v_aload_n hX 4 rfl (atL dAX8_hide_0 56 rfl) ?_
                  refine gf_X8_147 hX hk0 (atL dAX8_hide_0 57 rfl) ?_
                  refine v_iload hX 0 rfl (atL dAX8_hide_0 58 rfl) ?_
                  refine v_iconst hX (atL dAX8_hide_0 59 rfl) ?_
                  refine v_iast hX (c := 13) ((0 + j)) (hQ16 13 (by simp [mn, tp])) (by decide) (fun _ _ => rfl) (by omega) (show 0 + j < 600 by omega) (by decide) (atL dAX8_hide_1 0 rfl) ?_
                  refine v_iinc hX (lv' := [(10, .int (iI (((j : Int)) + 1))), (9, .int (iI (((lsp2 : Nat) : Int)))), (8, .int (iI ((hl p1 : Int)))), (7, .int (iI (((nby (K 0) : Nat) : Int)))), (0, .ref (w.1 13 0)), (1, .int (iI ((kx : Int)))), (2, .int (iI (p1))), (3, .int (iI ((sp2 : Int)))), (4, .int (iI ((sp3 : Int)))), (5, .int (iI ((sp4 : Int)))), (6, .int (iI ((sp5 : Int))))]) 0 rfl (iI_add _ _) (Nat.le_of_ble_eq_true rfl) rfl (atL dAX8_hide_1 1 rfl) ?_
                  refine v_goto hX (tgt := 95) (atL dAX8_hide_1 2 rfl) (by decide) ?_
                  refine v_sub (lv' := [(10, .int (iI (((j : Int)) + 1))), (9, .int (iI (((lsp2 : Nat) : Int)))), (8, .int (iI ((hl p1 : Int)))), (7, .int (iI (((nby (K 0) : Nat) : Int)))), (0, .ref (w.1 13 0)), (1, .int (iI ((kx : Int)))), (2, .int (iI (p1))), (3, .int (iI ((sp2 : Int)))), (4, .int (iI ((sp3 : Int)))), (5, .int (iI ((sp4 : Int)))), (6, .int (iI ((sp5 : Int))))]) [0, 1, 2, 3, 4, 5, 6, 7, 8, 9, 10] rfl ?_
                  rw [show (j : Int) + 1 = ((j + 1 : Nat) : Int) by omega]
                  exact ih (j + 1) _ (by omega) (cp_s hc7 rfl) (hf7.tr' (Fr.su (by simp)))
              refine v_sub (lv' := [(10, .int (iI (0))), (9, .int (iI (((lsp2 : Nat) : Int)))), (8, .int (iI ((hl p1 : Int)))), (7, .int (iI (((nby (K 0) : Nat) : Int)))), (0, .ref (w.1 13 0)), (1, .int (iI ((kx : Int)))), (2, .int (iI (p1))), (3, .int (iI ((sp2 : Int)))), (4, .int (iI ((sp3 : Int)))), (5, .int (iI ((sp4 : Int)))), (6, .int (iI ((sp5 : Int))))]) [0, 1, 2, 3, 4, 5, 6, 7, 8, 9, 10] rfl ?_
              exact loop7 (nby (K 0)) 0 s5 (by omega) cp_0.symm Fr.rf
            · refine v_bipush hX (by decide +kernel) (atL dAX8_hide_0 49 rfl) ?_
              exact v_iret hX (atL dAX8_hide_0 50 rfl) ((hret _ _ ⟨A, by rw [show s5 10 0 0 = 0 by omega]; unfold f_hide; simp only [Int.toNat_natCast, hPe, hKe]; rw [if_neg (by omega), if_neg (by omega), if_neg (by rw [hlsp2]; omega), if_pos (by rw [hlsp4]; omega)], hM.same hG5 hA5 hD5, hG5.fc⟩ _ hz5))
          · refine v_bipush hX (by decide +kernel) (atL dAX8_hide_0 41 rfl) ?_
            exact v_iret hX (atL dAX8_hide_0 42 rfl) ((hret _ _ ⟨A, by rw [show s5 10 0 0 = 0 by omega]; unfold f_hide; simp only [Int.toNat_natCast, hPe, hKe]; rw [if_neg (by omega), if_neg (by omega), if_pos (by rw [hlsp2]; omega)], hM.same hG5 hA5 hD5, hG5.fc⟩ _ hz5))
        · refine v_iconst hX (atL dAX8_hide_0 18 rfl) ?_
          exact v_iret hX (atL dAX8_hide_0 19 rfl) ((hret _ _ ⟨A, by rw [show s4 10 0 0 = 2 by omega]; unfold f_hide; rw [if_neg (by omega), if_pos (by omega)], hM.same hG4 hA4 hD4, hG4.fc⟩ _ hz4))
