theorem gD_dt {L : List Nat} {a m n : Nat} (h : m < n) : ((L.drop a).take n).getD m 0 = L.getD (a + m) 0 := by
  simp [List.getD, List.getElem?_take, h, List.getElem?_drop]
theorem take_get2 {L : List Nat} {k : Nat} (h : k < L.length) : L.take k ++ [L.getD k 0] = L.take (k + 1) := by
  rw [List.take_succ]
  congr 1
  simp [List.getD, List.getElem?_eq_getElem h]
theorem SM1.set {σ : St} {s k : Nat} {L : List Nat} {x : Nat} (h : SM1 σ s L) (hk : k < L.length) : SM1 (su σ 13 0 (256 * s + k) (x : Int)) s (L.set k x) := by
  refine ⟨by rw [su_i (by decide), List.length_set]; exact h.1, by rw [List.length_set]; exact h.2.1, fun j hj => ?_⟩
  rw [List.length_set] at hj
  by_cases e : j = k
  · subst e
    rw [su_s]
    simp [List.getD, hj]
  · rw [su_j (by omega), h.2.2 j hj]
    simp [List.getD, List.getElem?_set_ne (Ne.symm e)]

set_option maxHeartbeats 1000000 in
set_option maxRecDepth 100000 in
theorem c_X8_join [Gh] (l : Launch) (w : Wl) (σ : St) (hk0 : w.2 13 0) (A : Ab) (hM : HM σ A) (p0 : Int) (hp0 : rI p0) (p1 : Int) (hp1 : rI p1) (p2 : Int) (hp2 : rI p2) : Cn l yX8_join cX8_join 4 (Option.some Jvm.ClassFile.FieldType.int) 2 44 wI [.ref (w.1 13 0), .int (iI (p0)), .int (iI (p1)), .int (iI (p2))] w σ (fun a σ' => ∃ A', f_join A p0 p1 p2 = (σ' 10 0 0, a, A') ∧ HM σ' A' ∧ FC σ σ') := by
  refine Cn.of (own := RX8) (lv := [(0, .ref (w.1 13 0)), (1, .int (iI (p0))), (2, .int (iI (p1))), (3, .int (iI (p2)))]) (by decide +kernel) rfl (Nat.le_of_ble_eq_true rfl) rfl (fun X hX hxl hR hcl hret => ?_)
  subst hxl
  have hQ : ∀ q, (14, q) ∈ mn σ 13 0 → w.2 14 q := fun q h => hcl 13 0 hk0 (14, q) h
  have hQ5 : ∀ q, (14, q) ∈ mn σ 13 0 → w.2 15 q := fun q h => hcl 14 q (hQ q h) (15, q) (by simp [mn, tp])
  have hQ16 : ∀ q, (16, q) ∈ mn σ 13 0 → w.2 16 q := fun q h => hcl 13 0 hk0 (16, q) h
  have hp0a := hp0.1
  have hp0b := hp0.2
  have hp1a := hp1.1
  have hp1b := hp1.2
  have hp2a := hp2.1
  have hp2b := hp2.2
  refine v_aload_n hX 0 rfl (atL dAX8_join_0 0 rfl) ?_
  refine v_iload_n hX 1 rfl (atL dAX8_join_0 1 rfl) ?_
  refine v_iload_n hX 2 rfl (atL dAX8_join_0 2 rfl) ?_
  refine v_iload_n hX 3 rfl (atL dAX8_join_0 3 rfl) ?_
  refine v_callV hX (As := [.int (iI (p0)), .int (iI (p1)), .int (iI (p2))]) (rest := []) (c_X8_are (xl X) w σ hk0 p0 hp0 p1 hp1 p2 hp2) lk_X8_240 hk0 (fun _ => rfl) rfl rfl rfl (by rw [hR]; exact ⟨Nat.le_of_ble_eq_true rfl, Nat.le_of_ble_eq_true rfl⟩) ⟨Nat.zero_le _, Nat.zero_le _⟩ rfl (Nat.le_of_ble_eq_true rfl) (atL dAX8_join_0 4 rfl) (fun r1 s1 g1 => ?_)
  obtain ⟨gs1, ht1, hG1, hA1, hD1⟩ := are_use g1 FG.rf hM.2.1 hM.2.2
  have gd1 : r1 = 0 ∨ r1 = 1 := by rcases gs1 with q | q <;> omega
  show V X _ w _ _ s1 [.int (iI (r1))]
  refine v_if_ne hX ⟨by omega, by omega⟩ (tgt := 12) (atL dAX8_join_0 5 rfl) (by decide) (fun h7 => ?_) (fun h7 => ?_)
  · obtain ⟨sp0, rfl⟩ : ∃ q : Nat, p0 = (q : Int) := ⟨p0.toNat, by omega⟩
    obtain ⟨sp1, rfl⟩ : ∃ q : Nat, p1 = (q : Int) := ⟨p1.toNat, by omega⟩
    obtain ⟨sp2, rfl⟩ : ∃ q : Nat, p2 = (q : Int) := ⟨p2.toNat, by omega⟩
    obtain ⟨lsp0, hlsp0⟩ : ∃ q, (A.1 sp0).length = q := ⟨_, rfl⟩
    have hqsp0 : lsp0 ≤ 256 := by rw [← hlsp0]; exact hM.1.len (by omega)
    have hbvsp0 : lb (rv (A.1 sp0)) 128 := rv_lb (hM.1.by (by omega)) (hM.1.len (by omega))
    obtain ⟨lsp1, hlsp1⟩ : ∃ q, (A.1 sp1).length = q := ⟨_, rfl⟩
    have hqsp1 : lsp1 ≤ 256 := by rw [← hlsp1]; exact hM.1.len (by omega)
    have hbvsp1 : lb (rv (A.1 sp1)) 128 := rv_lb (hM.1.by (by omega)) (hM.1.len (by omega))
    obtain ⟨lsp2, hlsp2⟩ : ∃ q, (A.1 sp2).length = q := ⟨_, rfl⟩
    have hqsp2 : lsp2 ≤ 256 := by rw [← hlsp2]; exact hM.1.len (by omega)
    have hbvsp2 : lb (rv (A.1 sp2)) 128 := rv_lb (hM.1.by (by omega)) (hM.1.len (by omega))
    refine v_aload_n hX 0 rfl (atL dAX8_join_0 8 rfl) ?_
    refine gf_X8_71 hX hk0 (atL dAX8_join_0 9 rfl) ?_
    refine v_iload_n hX 1 rfl (atL dAX8_join_0 10 rfl) ?_
    refine v_iald hX (r := iI (((lsp0 : Nat) : Int))) sp0 (hQ16 1 (by simp [mn, tp])) (fun _ => rfl) rfl (show sp0 < 24 by omega) (by decide) (congrArg iI (((hM.1.fg hG1).1 sp0 (by omega)).1.1.trans (by rw [hlsp0]))) (atL dAX8_join_0 11 rfl) ?_
    refine v_aload_n hX 0 rfl (atL dAX8_join_0 12 rfl) ?_
    refine gf_X8_71 hX hk0 (atL dAX8_join_0 13 rfl) ?_
    refine v_iload_n hX 2 rfl (atL dAX8_join_0 14 rfl) ?_
    refine v_iald hX (r := iI (((lsp1 : Nat) : Int))) sp1 (hQ16 1 (by simp [mn, tp])) (fun _ => rfl) rfl (show sp1 < 24 by omega) (by decide) (congrArg iI (((hM.1.fg hG1).1 sp1 (by omega)).1.1.trans (by rw [hlsp1]))) (atL dAX8_join_0 15 rfl) ?_
    refine v_iadd hX (iI_add _ _) (atL dAX8_join_0 16 rfl) ?_
    refine v_sipush hX (by decide +kernel) (atL dAX8_join_0 17 rfl) ?_
    refine v_icmp_le hX ⟨by omega, by omega⟩ ⟨by omega, by omega⟩ (tgt := 34) (atL dAX8_join_0 18 rfl) (by decide) (fun h28 => ?_) (fun h28 => ?_)
    · refine v_aload_n hX 0 rfl (atL dAX8_join_0 21 rfl) ?_
      refine v_callV hX (As := []) (rest := []) (c_X8_anew (xl X) w s1 hk0) lk_X8_254 hk0 (fun _ => rfl) rfl rfl rfl (by rw [hR]; exact ⟨Nat.le_of_ble_eq_true rfl, Nat.le_of_ble_eq_true rfl⟩) ⟨Nat.zero_le _, Nat.zero_le _⟩ rfl (Nat.le_of_ble_eq_true rfl) (atL dAX8_join_0 22 rfl) (fun _ s2 e2 => ?_)
      obtain ⟨hr2, gb2⟩ := anew_use e2
      have hG2 := hG1.fp gb2
      have hA2 := hA1.fp gb2.1 rfl
      have hD2 := hD1.fp gb2
      have ht2 : s2 10 0 0 = 0 := by rw [gb2.2 0 (by decide)]; omega
      have hl2 : ([] : List Nat).length = 0 := rfl
      show V X _ w _ _ s2 []
      refine v_aload_n hX 0 rfl (atL dAX8_join_0 23 rfl) ?_
      refine v_iload_n hX 1 rfl (atL dAX8_join_0 24 rfl) ?_
      refine v_callV hX (As := [.int (iI ((sp0 : Int)))]) (rest := []) (c_X8_putsSlot (xl X) w s2 hk0 ([]) hr2 sp0 (by omega) (A.1 sp0) ((hM.1.fg hG2).1 sp0 (by omega)).1 (by rw [hl2, hlsp0]; omega)) lk_X8_260 hk0 (fun _ => rfl) rfl rfl rfl (by rw [hR]; exact ⟨Nat.le_of_ble_eq_true rfl, Nat.le_of_ble_eq_true rfl⟩) ⟨Nat.zero_le _, Nat.zero_le _⟩ rfl (Nat.le_of_ble_eq_true rfl) (atL dAX8_join_0 25 rfl) (fun _ s3 e3 => ?_)
      obtain ⟨hr3, gb3⟩ := e3
      rw [List.nil_append] at hr3
      have hG3 := hG2.fp gb3
      have hA3 := hA2.fp gb3.1 rfl
      have hD3 := hD2.fp gb3
      have ht3 : s3 10 0 0 = 0 := by rw [gb3.2 0 (by decide)]; omega
      have hl3 : (A.1 sp0).length = lsp0 := by exact hlsp0
      show V X _ w _ _ s3 []
      refine v_aload_n hX 0 rfl (atL dAX8_join_0 26 rfl) ?_
      refine v_iload_n hX 2 rfl (atL dAX8_join_0 27 rfl) ?_
      refine v_callV hX (As := [.int (iI ((sp1 : Int)))]) (rest := []) (c_X8_putsSlot (xl X) w s3 hk0 (A.1 sp0) hr3 sp1 (by omega) (A.1 sp1) ((hM.1.fg hG3).1 sp1 (by omega)).1 (by rw [hl3, hlsp1]; omega)) lk_X8_260 hk0 (fun _ => rfl) rfl rfl rfl (by rw [hR]; exact ⟨Nat.le_of_ble_eq_true rfl, Nat.le_of_ble_eq_true rfl⟩) ⟨Nat.zero_le _, Nat.zero_le _⟩ rfl (Nat.le_of_ble_eq_true rfl) (atL dAX8_join_0 28 rfl) (fun _ s4 e4 => ?_)
      obtain ⟨hr4, gb4⟩ := e4
      have hG4 := hG3.fp gb4
      have hA4 := hA3.fp gb4.1 rfl
      have hD4 := hD3.fp gb4
      have ht4 : s4 10 0 0 = 0 := by rw [gb4.2 0 (by decide)]; omega
      have hl4 : (A.1 sp0 ++ A.1 sp1).length = lsp0 + lsp1 := by rw [List.length_append, hl3, hlsp1]
      show V X _ w _ _ s4 []
      refine v_aload_n hX 0 rfl (atL dAX8_join_0 29 rfl) ?_
      refine v_iload_n hX 3 rfl (atL dAX8_join_0 30 rfl) ?_
      refine v_callV hX (As := [.int (iI ((sp2 : Int)))]) (rest := []) (c_X8_writes (xl X) w s4 hk0 (A.1 sp0 ++ A.1 sp1) hr4 (by rw [hl4]; omega) sp2 (by omega)) lk_X8_257 hk0 (fun _ => rfl) rfl rfl rfl (by rw [hR]; exact ⟨Nat.le_of_ble_eq_true rfl, Nat.le_of_ble_eq_true rfl⟩) ⟨Nat.zero_le _, Nat.zero_le _⟩ rfl (Nat.le_of_ble_eq_true rfl) (atL dAX8_join_0 31 rfl) (fun r5 s5 e5 => ?_)
      show V X _ w _ _ s5 [.int (iI (r5))]
      exact v_iret hX (atL dAX8_join_0 32 rfl) (hret _ _ (wr_post (t := sp2) (M := A.1 sp0 ++ A.1 sp1) (by unfold f_join; simp only [Int.toNat_natCast]; rw [if_neg (by omega), if_neg (by omega), List.length_append]) ((hM.1.by (by omega)).app (hM.1.by (by omega))) hM hG4 hA4 hD4 (by omega) (by omega) e5))
    · refine v_bipush hX (by decide +kernel) (atL dAX8_join_0 19 rfl) ?_
      exact v_iret hX (atL dAX8_join_0 20 rfl) (hret _ _ ⟨A, by rw [show s1 10 0 0 = 0 by omega]; unfold f_join; simp only [Int.toNat_natCast]; rw [if_neg (by omega), if_pos (by omega)], hM.same hG1 hA1 hD1, hG1.fc⟩)
  · refine v_iconst hX (atL dAX8_join_0 6 rfl) ?_
    exact v_iret hX (atL dAX8_join_0 7 rfl) (hret _ _ ⟨A, by rw [show s1 10 0 0 = 1 by omega]; unfold f_join; rw [if_pos (by omega)], hM.same hG1 hA1 hD1, hG1.fc⟩)

set_option maxHeartbeats 1000000 in
set_option maxRecDepth 100000 in
theorem c_X8_compare [Gh] (l : Launch) (w : Wl) (σ : St) (hk0 : w.2 13 0) (A : Ab) (hM : HM σ A) (p0 : Int) (hp0 : rI p0) (p1 : Int) (hp1 : rI p1) : Cn l yX8_compare cX8_compare 3 (Option.some Jvm.ClassFile.FieldType.int) 3 68 wI [.ref (w.1 13 0), .int (iI (p0)), .int (iI (p1))] w σ (fun a σ' => ∃ A', f_compare A p0 p1 = (σ' 10 0 0, a, A') ∧ HM σ' A' ∧ FC σ σ') := by
  refine Cn.of (own := RX8) (lv := [(0, .ref (w.1 13 0)), (1, .int (iI (p0))), (2, .int (iI (p1)))]) (by decide +kernel) rfl (Nat.le_of_ble_eq_true rfl) rfl (fun X hX hxl hR hcl hret => ?_)
  subst hxl
  have hQ : ∀ q, (14, q) ∈ mn σ 13 0 → w.2 14 q := fun q h => hcl 13 0 hk0 (14, q) h
  have hQ5 : ∀ q, (14, q) ∈ mn σ 13 0 → w.2 15 q := fun q h => hcl 14 q (hQ q h) (15, q) (by simp [mn, tp])
  have hQ16 : ∀ q, (16, q) ∈ mn σ 13 0 → w.2 16 q := fun q h => hcl 13 0 hk0 (16, q) h
  have hp0a := hp0.1
  have hp0b := hp0.2
  have hp1a := hp1.1
  have hp1b := hp1.2
  refine v_aload_n hX 0 rfl (atL dAX8_compare_0 0 rfl) ?_
  refine v_iload_n hX 1 rfl (atL dAX8_compare_0 1 rfl) ?_
  refine v_iload_n hX 2 rfl (atL dAX8_compare_0 2 rfl) ?_
  refine v_iload_n hX 2 rfl (atL dAX8_compare_0 3 rfl) ?_
  refine v_callV hX (As := [.int (iI (p0)), .int (iI (p1)), .int (iI (p1))]) (rest := []) (c_X8_are (xl X) w σ hk0 p0 hp0 p1 hp1 p1 hp1) lk_X8_240 hk0 (fun _ => rfl) rfl rfl rfl (by rw [hR]; exact ⟨Nat.le_of_ble_eq_true rfl, Nat.le_of_ble_eq_true rfl⟩) ⟨Nat.zero_le _, Nat.zero_le _⟩ rfl (Nat.le_of_ble_eq_true rfl) (atL dAX8_compare_0 4 rfl) (fun r1 s1 g1 => ?_)
  obtain ⟨gs1, ht1, hG1, hA1, hD1⟩ := are_use g1 FG.rf hM.2.1 hM.2.2
  have gd1 : r1 = 0 ∨ r1 = 1 := by rcases gs1 with q | q <;> omega
  show V X _ w _ _ s1 [.int (iI (r1))]
  refine v_if_ne hX ⟨by omega, by omega⟩ (tgt := 12) (atL dAX8_compare_0 5 rfl) (by decide) (fun h7 => ?_) (fun h7 => ?_)
  · obtain ⟨sp0, rfl⟩ : ∃ q : Nat, p0 = (q : Int) := ⟨p0.toNat, by omega⟩
    obtain ⟨sp1, rfl⟩ : ∃ q : Nat, p1 = (q : Int) := ⟨p1.toNat, by omega⟩
    obtain ⟨lsp0, hlsp0⟩ : ∃ q, (A.1 sp0).length = q := ⟨_, rfl⟩
    have hqsp0 : lsp0 ≤ 256 := by rw [← hlsp0]; exact hM.1.len (by omega)
    have hbvsp0 : lb (rv (A.1 sp0)) 128 := rv_lb (hM.1.by (by omega)) (hM.1.len (by omega))
    obtain ⟨lsp1, hlsp1⟩ : ∃ q, (A.1 sp1).length = q := ⟨_, rfl⟩
    have hqsp1 : lsp1 ≤ 256 := by rw [← hlsp1]; exact hM.1.len (by omega)
    have hbvsp1 : lb (rv (A.1 sp1)) 128 := rv_lb (hM.1.by (by omega)) (hM.1.len (by omega))
    refine v_aload_n hX 0 rfl (atL dAX8_compare_0 8 rfl) ?_
    refine v_iload_n hX 1 rfl (atL dAX8_compare_0 9 rfl) ?_
    refine v_aload_n hX 0 rfl (atL dAX8_compare_0 10 rfl) ?_
    refine gf_X8_80 hX hk0 (atL dAX8_compare_0 11 rfl) ?_
    refine v_callV hX (As := [.int (iI ((sp0 : Int))), .ref (w.1 14 18)]) (rest := []) (c_X8_number (xl X) w s1 hk0 sp0 (by omega) (A.1 sp0) ((hM.1.fg hG1).1 sp0 (by omega)).1 (hM.1.by (by omega)) 18 (hQ 18 (by simp [mn, tp])) (hA1 18)) lk_X8_271 hk0 (fun _ => rfl) rfl rfl rfl (by rw [hR]; exact ⟨Nat.le_of_ble_eq_true rfl, Nat.le_of_ble_eq_true rfl⟩) ⟨Nat.zero_le _, Nat.zero_le _⟩ rfl (Nat.le_of_ble_eq_true rfl) (atL dAX8_compare_0 12 rfl) (fun _ s2 e2 => ?_)
    obtain ⟨hw2, hf2⟩ := e2
    have hA2 := hA1.one hf2 hw2
    have hG2 := hG1.fr hf2 rfl (by decide)
    have hD2 := hD1.fr hf2 (by decide) (by decide) (by decide)
    have ht2 : s2 10 0 0 = 0 := by rw [hf2 10 0 (by decide)]; omega
    show V X _ w _ _ s2 []
    refine v_aload_n hX 0 rfl (atL dAX8_compare_0 13 rfl) ?_
    refine v_iload_n hX 2 rfl (atL dAX8_compare_0 14 rfl) ?_
    refine v_aload_n hX 0 rfl (atL dAX8_compare_0 15 rfl) ?_
    refine gf_X8_83 hX hk0 (atL dAX8_compare_0 16 rfl) ?_
    refine v_callV hX (As := [.int (iI ((sp1 : Int))), .ref (w.1 14 19)]) (rest := []) (c_X8_number (xl X) w s2 hk0 sp1 (by omega) (A.1 sp1) ((hM.1.fg hG2).1 sp1 (by omega)).1 (hM.1.by (by omega)) 19 (hQ 19 (by simp [mn, tp])) (hA2 19)) lk_X8_271 hk0 (fun _ => rfl) rfl rfl rfl (by rw [hR]; exact ⟨Nat.le_of_ble_eq_true rfl, Nat.le_of_ble_eq_true rfl⟩) ⟨Nat.zero_le _, Nat.zero_le _⟩ rfl (Nat.le_of_ble_eq_true rfl) (atL dAX8_compare_0 17 rfl) (fun _ s3 e3 => ?_)
    obtain ⟨hw3, hf3⟩ := e3
    have hA3 := hA2.one hf3 hw3
    have hn3_18 := nm.fr hw2 hf3 (by decide) (by decide)
    have hG3 := hG2.fr hf3 rfl (by decide)
    have hD3 := hD2.fr hf3 (by decide) (by decide) (by decide)
    have ht3 : s3 10 0 0 = 0 := by rw [hf3 10 0 (by decide)]; omega
    show V X _ w _ _ s3 []
    refine v_aload_n hX 0 rfl (atL dAX8_compare_0 18 rfl) ?_
    refine gf_X8_80 hX hk0 (atL dAX8_compare_0 19 rfl) ?_
    refine v_aload_n hX 0 rfl (atL dAX8_compare_0 20 rfl) ?_
    refine gf_X8_83 hX hk0 (atL dAX8_compare_0 21 rfl) ?_
    refine v_callN hX (As := [.ref (w.1 14 19)]) (rest := []) (c_X7_compare (xl X) w s3 18 (rv (A.1 sp0)) (hQ 18 (by simp [mn, tp])) hn3_18 19 (rv (A.1 sp1)) (hQ 19 (by simp [mn, tp])) hw3) lk_X8_160 (hQ 18 (by simp [mn, tp])) (fun _ => rfl) rfl rfl rfl (by rw [hR]; exact ⟨Nat.le_of_ble_eq_true rfl, Nat.le_of_ble_eq_true rfl⟩) ⟨Nat.zero_le _, Nat.zero_le _⟩ rfl (Nat.le_of_ble_eq_true rfl) (atL dAX8_compare_0 22 rfl) (fun r4 z4 g4 => ?_)
    obtain ⟨ga4, gb4⟩ := g4
    rw [gb4]
    have gc4 : (r4 = -1 ∧ rv (A.1 sp0) < rv (A.1 sp1)) ∨ (r4 = 0 ∧ rv (A.1 sp0) = rv (A.1 sp1)) ∨ (r4 = 1 ∧ rv (A.1 sp1) < rv (A.1 sp0)) := ord3 ga4
    show V X _ w _ _ s3 [.int (iI (r4))]
    exact v_iret hX (atL dAX8_compare_0 23 rfl) (hret _ _ ⟨A, by rw [show s3 10 0 0 = 0 by omega]; unfold f_compare; simp only [Int.toNat_natCast]; rw [if_neg (by omega)]; rw [ga4], hM.same hG3 hA3 hD3, hG3.fc⟩)
  · refine v_iconst hX (atL dAX8_compare_0 6 rfl) ?_
    exact v_iret hX (atL dAX8_compare_0 7 rfl) (hret _ _ ⟨A, by rw [show s1 10 0 0 = 1 by omega]; unfold f_compare; rw [if_pos (by omega)], hM.same hG1 hA1 hD1, hG1.fc⟩)

set_option maxHeartbeats 1000000 in
set_option maxRecDepth 100000 in
theorem c_X8_bits [Gh] (l : Launch) (w : Wl) (σ : St) (hk0 : w.2 13 0) (A : Ab) (hM : HM σ A) (p0 : Int) (hp0 : rI p0) : Cn l yX8_bits cX8_bits 2 (Option.some Jvm.ClassFile.FieldType.int) 3 68 wI [.ref (w.1 13 0), .int (iI (p0))] w σ (fun a σ' => ∃ A', f_bits A p0 = (σ' 10 0 0, a, A') ∧ HM σ' A' ∧ FC σ σ') := by
  refine Cn.of (own := RX8) (lv := [(0, .ref (w.1 13 0)), (1, .int (iI (p0)))]) (by decide +kernel) rfl (Nat.le_of_ble_eq_true rfl) rfl (fun X hX hxl hR hcl hret => ?_)
  subst hxl
  have hQ : ∀ q, (14, q) ∈ mn σ 13 0 → w.2 14 q := fun q h => hcl 13 0 hk0 (14, q) h
  have hQ5 : ∀ q, (14, q) ∈ mn σ 13 0 → w.2 15 q := fun q h => hcl 14 q (hQ q h) (15, q) (by simp [mn, tp])
  have hQ16 : ∀ q, (16, q) ∈ mn σ 13 0 → w.2 16 q := fun q h => hcl 13 0 hk0 (16, q) h
  have hp0a := hp0.1
  have hp0b := hp0.2
  refine v_aload_n hX 0 rfl (atL dAX8_bits_0 0 rfl) ?_
  refine v_iload_n hX 1 rfl (atL dAX8_bits_0 1 rfl) ?_
  refine v_iload_n hX 1 rfl (atL dAX8_bits_0 2 rfl) ?_
  refine v_iload_n hX 1 rfl (atL dAX8_bits_0 3 rfl) ?_
  refine v_callV hX (As := [.int (iI (p0)), .int (iI (p0)), .int (iI (p0))]) (rest := []) (c_X8_are (xl X) w σ hk0 p0 hp0 p0 hp0 p0 hp0) lk_X8_240 hk0 (fun _ => rfl) rfl rfl rfl (by rw [hR]; exact ⟨Nat.le_of_ble_eq_true rfl, Nat.le_of_ble_eq_true rfl⟩) ⟨Nat.zero_le _, Nat.zero_le _⟩ rfl (Nat.le_of_ble_eq_true rfl) (atL dAX8_bits_0 4 rfl) (fun r1 s1 g1 => ?_)
  obtain ⟨gs1, ht1, hG1, hA1, hD1⟩ := are_use g1 FG.rf hM.2.1 hM.2.2
  have gd1 : r1 = 0 ∨ r1 = 1 := by rcases gs1 with q | q <;> omega
  show V X _ w _ _ s1 [.int (iI (r1))]
  refine v_if_ne hX ⟨by omega, by omega⟩ (tgt := 12) (atL dAX8_bits_0 5 rfl) (by decide) (fun h7 => ?_) (fun h7 => ?_)
  · obtain ⟨sp0, rfl⟩ : ∃ q : Nat, p0 = (q : Int) := ⟨p0.toNat, by omega⟩
    obtain ⟨lsp0, hlsp0⟩ : ∃ q, (A.1 sp0).length = q := ⟨_, rfl⟩
    have hqsp0 : lsp0 ≤ 256 := by rw [← hlsp0]; exact hM.1.len (by omega)
    have hbvsp0 : lb (rv (A.1 sp0)) 128 := rv_lb (hM.1.by (by omega)) (hM.1.len (by omega))
    refine v_aload_n hX 0 rfl (atL dAX8_bits_0 8 rfl) ?_
    refine v_iload_n hX 1 rfl (atL dAX8_bits_0 9 rfl) ?_
    refine v_aload_n hX 0 rfl (atL dAX8_bits_0 10 rfl) ?_
    refine gf_X8_80 hX hk0 (atL dAX8_bits_0 11 rfl) ?_
    refine v_callV hX (As := [.int (iI ((sp0 : Int))), .ref (w.1 14 18)]) (rest := []) (c_X8_number (xl X) w s1 hk0 sp0 (by omega) (A.1 sp0) ((hM.1.fg hG1).1 sp0 (by omega)).1 (hM.1.by (by omega)) 18 (hQ 18 (by simp [mn, tp])) (hA1 18)) lk_X8_271 hk0 (fun _ => rfl) rfl rfl rfl (by rw [hR]; exact ⟨Nat.le_of_ble_eq_true rfl, Nat.le_of_ble_eq_true rfl⟩) ⟨Nat.zero_le _, Nat.zero_le _⟩ rfl (Nat.le_of_ble_eq_true rfl) (atL dAX8_bits_0 12 rfl) (fun _ s2 e2 => ?_)
    obtain ⟨hw2, hf2⟩ := e2
    have hA2 := hA1.one hf2 hw2
    have hG2 := hG1.fr hf2 rfl (by decide)
    have hD2 := hD1.fr hf2 (by decide) (by decide) (by decide)
    have ht2 : s2 10 0 0 = 0 := by rw [hf2 10 0 (by decide)]; omega
    show V X _ w _ _ s2 []
    refine v_aload_n hX 0 rfl (atL dAX8_bits_0 13 rfl) ?_
    refine gf_X8_80 hX hk0 (atL dAX8_bits_0 14 rfl) ?_
    refine v_callN hX (As := []) (rest := []) (c_X7_bits (xl X) w s2 18 (rv (A.1 sp0)) (hQ 18 (by simp [mn, tp])) hw2) lk_X8_167 (hQ 18 (by simp [mn, tp])) (fun _ => rfl) rfl rfl rfl (by rw [hR]; exact ⟨Nat.le_of_ble_eq_true rfl, Nat.le_of_ble_eq_true rfl⟩) ⟨Nat.zero_le _, Nat.zero_le _⟩ rfl (Nat.le_of_ble_eq_true rfl) (atL dAX8_bits_0 15 rfl) (fun r3 z3 g3 => ?_)
    obtain ⟨ga3, gb3⟩ := g3
    rw [gb3]
    subst ga3
    have hbl3 : blen (rv (A.1 sp0)) ≤ 4320 := blen_le (NN.le hw2)
    have hby3 : nby (rv (A.1 sp0)) = (blen (rv (A.1 sp0)) + 7) / 8 := rfl
    show V X _ w _ _ s2 [.int (iI (((blen (rv (A.1 sp0)) : Nat) : Int)))]
    exact v_iret hX (atL dAX8_bits_0 16 rfl) (hret _ _ ⟨A, by rw [show s2 10 0 0 = 0 by omega]; unfold f_bits; simp only [Int.toNat_natCast]; rw [if_neg (by omega)], hM.same hG2 hA2 hD2, hG2.fc⟩)
  · refine v_iconst hX (atL dAX8_bits_0 6 rfl) ?_
    exact v_iret hX (atL dAX8_bits_0 7 rfl) (hret _ _ ⟨A, by rw [show s1 10 0 0 = 1 by omega]; unfold f_bits; rw [if_pos (by omega)], hM.same hG1 hA1 hD1, hG1.fc⟩)

set_option maxHeartbeats 1000000 in
set_option maxRecDepth 100000 in
theorem c_X8_change [Gh] (l : Launch) (w : Wl) (σ : St) (hk0 : w.2 13 0) (A : Ab) (hM : HM σ A) (p0 : Int) (hp0 : rI p0) (p1 : Int) (hp1 : rI p1) (p2 : Int) (hp2 : rI p2) : Cn l yX8_change cX8_change 5 (Option.some Jvm.ClassFile.FieldType.int) 2 44 wI [.ref (w.1 13 0), .int (iI (p0)), .int (iI (p1)), .int (iI (p2))] w σ (fun a σ' => ∃ A', f_change A p0 p1 p2 = (σ' 10 0 0, a, A') ∧ HM σ' A' ∧ FC σ σ') := by
  refine Cn.of (own := RX8) (lv := [(0, .ref (w.1 13 0)), (1, .int (iI (p0))), (2, .int (iI (p1))), (3, .int (iI (p2)))]) (by decide +kernel) rfl (Nat.le_of_ble_eq_true rfl) rfl (fun X hX hxl hR hcl hret => ?_)
  subst hxl
  have hQ : ∀ q, (14, q) ∈ mn σ 13 0 → w.2 14 q := fun q h => hcl 13 0 hk0 (14, q) h
  have hQ5 : ∀ q, (14, q) ∈ mn σ 13 0 → w.2 15 q := fun q h => hcl 14 q (hQ q h) (15, q) (by simp [mn, tp])
  have hQ16 : ∀ q, (16, q) ∈ mn σ 13 0 → w.2 16 q := fun q h => hcl 13 0 hk0 (16, q) h
  have hp0a := hp0.1
  have hp0b := hp0.2
  have hp1a := hp1.1
  have hp1b := hp1.2
  have hp2a := hp2.1
  have hp2b := hp2.2
  refine v_aload_n hX 0 rfl (atL dAX8_change_0 0 rfl) ?_
  refine v_iload_n hX 1 rfl (atL dAX8_change_0 1 rfl) ?_
  refine v_iload_n hX 1 rfl (atL dAX8_change_0 2 rfl) ?_
  refine v_iload_n hX 1 rfl (atL dAX8_change_0 3 rfl) ?_
  refine v_callV hX (As := [.int (iI (p0)), .int (iI (p0)), .int (iI (p0))]) (rest := []) (c_X8_are (xl X) w σ hk0 p0 hp0 p0 hp0 p0 hp0) lk_X8_240 hk0 (fun _ => rfl) rfl rfl rfl (by rw [hR]; exact ⟨Nat.le_of_ble_eq_true rfl, Nat.le_of_ble_eq_true rfl⟩) ⟨Nat.zero_le _, Nat.zero_le _⟩ rfl (Nat.le_of_ble_eq_true rfl) (atL dAX8_change_0 4 rfl) (fun r1 s1 g1 => ?_)
  obtain ⟨gs1, ht1, hG1, hA1, hD1⟩ := are_use g1 FG.rf hM.2.1 hM.2.2
  have gd1 : r1 = 0 ∨ r1 = 1 := by rcases gs1 with q | q <;> omega
  show V X _ w _ _ s1 [.int (iI (r1))]
  refine v_if_eq hX ⟨by omega, by omega⟩ (tgt := 36) (atL dAX8_change_0 5 rfl) (by decide) (fun h7 => ?_) (fun h7 => ?_)
  · refine v_iconst hX (atL dAX8_change_0 20 rfl) ?_
    exact v_iret hX (atL dAX8_change_0 21 rfl) (hret _ _ ⟨A, by rw [show s1 10 0 0 = 1 by omega]; unfold f_change; rw [if_pos (by omega)], hM.same hG1 hA1 hD1, hG1.fc⟩)
  · obtain ⟨sp0, rfl⟩ : ∃ q : Nat, p0 = (q : Int) := ⟨p0.toNat, by omega⟩
    obtain ⟨lsp0, hlsp0⟩ : ∃ q, (A.1 sp0).length = q := ⟨_, rfl⟩
    have hqsp0 : lsp0 ≤ 256 := by rw [← hlsp0]; exact hM.1.len (by omega)
    have hbvsp0 : lb (rv (A.1 sp0)) 128 := rv_lb (hM.1.by (by omega)) (hM.1.len (by omega))
    refine v_aload_n hX 0 rfl (atL dAX8_change_0 6 rfl) ?_
    refine v_iload_n hX 2 rfl (atL dAX8_change_0 7 rfl) ?_
    refine v_if_lt hX ⟨by omega, by omega⟩ (tgt := 25) (atL dAX8_change_0 8 rfl) (by decide) (fun h12 => ?_) (fun h12 => ?_)
    · refine v_iconst hX (atL dAX8_change_0 15 rfl) ?_
      refine v_goto hX (tgt := 30) (atL dAX8_change_0 16 rfl) (by decide) ?_
      refine v_callV hX (As := [.int (iI (1))]) (rest := []) (c_X8_bad (xl X) w s1 hk0 1 (by decide)) lk_X8_244 hk0 (fun _ => rfl) rfl rfl rfl (by rw [hR]; exact ⟨Nat.le_of_ble_eq_true rfl, Nat.le_of_ble_eq_true rfl⟩) ⟨Nat.zero_le _, Nat.zero_le _⟩ rfl (Nat.le_of_ble_eq_true rfl) (atL dAX8_change_0 18 rfl) (fun r2 s2 g2 => ?_)
      obtain ⟨gs2, ht2, hG2, hA2, hD2⟩ := bad_use g2 (by omega) hG1 hA1 hD1
      subst gs2
      show V X _ w _ _ s2 [.int (iI (1))]
      refine v_if_eq hX ⟨by omega, by omega⟩ (tgt := 38) (atL dAX8_change_0 19 rfl) (by decide) (fun h33 => absurd h33 (by omega)) (fun h33 => ?_)
      refine v_iconst hX (atL dAX8_change_0 20 rfl) ?_
      exact v_iret hX (atL dAX8_change_0 21 rfl) (hret _ _ ⟨A, by rw [show s2 10 0 0 = 2 by omega]; unfold f_change; simp only [Int.toNat_natCast]; rw [if_neg (by omega), if_pos (by rw [hlsp0]; omega)], hM.same hG2 hA2 hD2, hG2.fc⟩)
    · refine v_iload_n hX 2 rfl (atL dAX8_change_0 9 rfl) ?_
      refine v_aload_n hX 0 rfl (atL dAX8_change_0 10 rfl) ?_
      refine gf_X8_71 hX hk0 (atL dAX8_change_0 11 rfl) ?_
      refine v_iload_n hX 1 rfl (atL dAX8_change_0 12 rfl) ?_
      refine v_iald hX (r := iI (((lsp0 : Nat) : Int))) sp0 (hQ16 1 (by simp [mn, tp])) (fun _ => rfl) rfl (show sp0 < 24 by omega) (by decide) (congrArg iI (((hM.1.fg hG1).1 sp0 (by omega)).1.1.trans (by rw [hlsp0]))) (atL dAX8_change_0 13 rfl) ?_
      refine v_icmp_lt hX ⟨by omega, by omega⟩ ⟨by omega, by omega⟩ (tgt := 29) (atL dAX8_change_0 14 rfl) (by decide) (fun h22 => ?_) (fun h22 => ?_)
      · refine v_iconst hX (atL dAX8_change_0 17 rfl) ?_
        refine v_callV hX (As := [.int (iI (0))]) (rest := []) (c_X8_bad (xl X) w s1 hk0 0 (by decide)) lk_X8_244 hk0 (fun _ => rfl) rfl rfl rfl (by rw [hR]; exact ⟨Nat.le_of_ble_eq_true rfl, Nat.le_of_ble_eq_true rfl⟩) ⟨Nat.zero_le _, Nat.zero_le _⟩ rfl (Nat.le_of_ble_eq_true rfl) (atL dAX8_change_0 18 rfl) (fun r3 s3 g3 => ?_)
        obtain ⟨gs3, ht3, hG3, hA3, hD3⟩ := bad_use g3 (by omega) hG1 hA1 hD1
        subst gs3
        show V X _ w _ _ s3 [.int (iI (0))]
        refine v_if_eq hX ⟨by omega, by omega⟩ (tgt := 38) (atL dAX8_change_0 19 rfl) (by decide) (fun h33 => ?_) (fun h33 => absurd h33 (by omega))
        obtain ⟨i1, rfl⟩ : ∃ q : Nat, p1 = (q : Int) := ⟨p1.toNat, by omega⟩
        refine v_aload_n hX 0 rfl (atL dAX8_change_0 22 rfl) ?_
        refine gf_X8_67 hX hk0 (atL dAX8_change_0 23 rfl) ?_
        refine v_sipush hX (by decide +kernel) (atL dAX8_change_0 24 rfl) ?_
        refine v_iload_n hX 1 rfl (atL dAX8_change_0 25 rfl) ?_
        refine v_imul hX (iI_mul _ _) (atL dAX8_change_0 26 rfl) ?_
        refine v_iload_n hX 2 rfl (atL dAX8_change_0 27 rfl) ?_
        refine v_iadd hX (iI_add _ _) (atL dAX8_change_0 28 rfl) ?_
        refine v_iald hX (r := iI ((((A.1 sp0).getD i1 0 : Nat) : Int))) ((256 * sp0 + i1)) (hQ16 0 (by simp [mn, tp])) (fun _ => rfl) (by omega) (show 256 * sp0 + i1 < 6144 by omega) (by decide) (congrArg iI (((hM.1.fg hG3).1 sp0 (by omega)).1.2.2 i1 (by rw [hlsp0]; omega))) (atL dAX8_change_0 29 rfl) ?_
        refine v_istore hX (lv' := [(4, .int (iI ((((A.1 sp0).getD i1 0 : Nat) : Int)))), (0, .ref (w.1 13 0)), (1, .int (iI ((sp0 : Int)))), (2, .int (iI ((i1 : Int)))), (3, .int (iI (p2)))]) (Nat.le_of_ble_eq_true rfl) rfl (atL dAX8_change_0 30 rfl) ?_
        refine v_aload_n hX 1 rfl (atL dAX8_change_0 31 rfl) ?_
        refine gf_X8_67 hX hk0 (atL dAX8_change_0 32 rfl) ?_
        refine v_sipush hX (by decide +kernel) (atL dAX8_change_0 33 rfl) ?_
        refine v_iload_n hX 2 rfl (atL dAX8_change_0 34 rfl) ?_
        refine v_imul hX (iI_mul _ _) (atL dAX8_change_0 35 rfl) ?_
        refine v_iload_n hX 3 rfl (atL dAX8_change_0 36 rfl) ?_
        refine v_iadd hX (iI_add _ _) (atL dAX8_change_0 37 rfl) ?_
        refine v_iload_n hX 4 rfl (atL dAX8_change_0 38 rfl) ?_
        refine v_sipush hX (by decide +kernel) (atL dAX8_change_0 39 rfl) ?_
        refine v_iand hX (r := iI (p2 % 256)) (iI_mask _ 8 (by decide)) (atL dAX8_change_0 40 rfl) ?_
        rw [show (p2 % 256) = (((p2 % 256).toNat : Nat) : Int) from (by omega)]
        refine v_iast hX (c := 13) ((256 * sp0 + i1)) (hQ16 0 (by simp [mn, tp])) (by decide) (fun _ _ => rfl) (by omega) (show 256 * sp0 + i1 < 6144 by omega) (by decide) (atL dAX8_change_0 41 rfl) ?_
        refine v_iload hX 0 rfl (atL dAX8_change_0 42 rfl) ?_
        exact v_iret hX (atL dAX8_change_0 43 rfl) (hret _ _ ⟨A.put sp0 ((A.1 sp0).set i1 (p2 % 256).toNat), by rw [show su s3 13 0 (256 * sp0 + i1) (((p2 % 256).toNat : Nat) : Int) 10 0 0 = 0 by rw [su_c (by decide)]; omega]; unfold f_change; simp only [Int.toNat_natCast]; rw [if_neg (by omega), if_neg (by rw [hlsp0]; omega)], ⟨(hM.1.fg hG3).put (by omega) (((hM.1.fg hG3).1 sp0 (by omega)).1.set (by rw [hlsp0]; omega)) (BY_set (hM.1.by (by omega)) (by omega)) (fun q hq => by rw [List.length_set, hlsp0] at hq; exact su_j (by omega)) (fun q hq => su_i (by decide)) (su_ri (by decide)) (su_ri (by decide)) (su_ri (by decide)) (by rw [su_rc (by decide)]) (su_c (by decide)) (su_c (by decide)), hA3.s1 (by decide), hD3.sa (by decide) (by decide)⟩, hG3.fc.tr (fun c i hc => by rw [su_rc (by omega)])⟩)
      · refine v_iconst hX (atL dAX8_change_0 15 rfl) ?_
        refine v_goto hX (tgt := 30) (atL dAX8_change_0 16 rfl) (by decide) ?_
        refine v_callV hX (As := [.int (iI (1))]) (rest := []) (c_X8_bad (xl X) w s1 hk0 1 (by decide)) lk_X8_244 hk0 (fun _ => rfl) rfl rfl rfl (by rw [hR]; exact ⟨Nat.le_of_ble_eq_true rfl, Nat.le_of_ble_eq_true rfl⟩) ⟨Nat.zero_le _, Nat.zero_le _⟩ rfl (Nat.le_of_ble_eq_true rfl) (atL dAX8_change_0 18 rfl) (fun r4 s4 g4 => ?_)
        obtain ⟨gs4, ht4, hG4, hA4, hD4⟩ := bad_use g4 (by omega) hG1 hA1 hD1
        subst gs4
        show V X _ w _ _ s4 [.int (iI (1))]
        refine v_if_eq hX ⟨by omega, by omega⟩ (tgt := 38) (atL dAX8_change_0 19 rfl) (by decide) (fun h33 => absurd h33 (by omega)) (fun h33 => ?_)
        refine v_iconst hX (atL dAX8_change_0 20 rfl) ?_
        exact v_iret hX (atL dAX8_change_0 21 rfl) (hret _ _ ⟨A, by rw [show s4 10 0 0 = 2 by omega]; unfold f_change; simp only [Int.toNat_natCast]; rw [if_neg (by omega), if_pos (by rw [hlsp0]; omega)], hM.same hG4 hA4 hD4, hG4.fc⟩)

set_option maxHeartbeats 1000000 in
set_option maxRecDepth 100000 in
theorem c_X8_cut [Gh] (l : Launch) (w : Wl) (σ : St) (hk0 : w.2 13 0) (A : Ab) (hM : HM σ A) (p0 : Int) (hp0 : rI p0) (p1 : Int) (hp1 : rI p1) (p2 : Int) (hp2 : rI p2) (p3 : Int) (hp3 : rI p3) : Cn l yX8_cut cX8_cut 6 (Option.some Jvm.ClassFile.FieldType.int) 2 44 wI [.ref (w.1 13 0), .int (iI (p0)), .int (iI (p1)), .int (iI (p2)), .int (iI (p3))] w σ (fun a σ' => ∃ A', f_cut A p0 p1 p2 p3 = (σ' 10 0 0, a, A') ∧ HM σ' A' ∧ FC σ σ') := by
  refine Cn.of (own := RX8) (lv := [(0, .ref (w.1 13 0)), (1, .int (iI (p0))), (2, .int (iI (p1))), (3, .int (iI (p2))), (4, .int (iI (p3)))]) (by decide +kernel) rfl (Nat.le_of_ble_eq_true rfl) rfl (fun X hX hxl hR hcl hret => ?_)
  subst hxl
  have hQ : ∀ q, (14, q) ∈ mn σ 13 0 → w.2 14 q := fun q h => hcl 13 0 hk0 (14, q) h
  have hQ5 : ∀ q, (14, q) ∈ mn σ 13 0 → w.2 15 q := fun q h => hcl 14 q (hQ q h) (15, q) (by simp [mn, tp])
  have hQ16 : ∀ q, (16, q) ∈ mn σ 13 0 → w.2 16 q := fun q h => hcl 13 0 hk0 (16, q) h
  have hp0a := hp0.1
  have hp0b := hp0.2
  have hp1a := hp1.1
  have hp1b := hp1.2
  have hp2a := hp2.1
  have hp2b := hp2.2
  have hp3a := hp3.1
  have hp3b := hp3.2
  refine v_aload_n hX 0 rfl (atL dAX8_cut_0 0 rfl) ?_
  refine v_iload_n hX 1 rfl (atL dAX8_cut_0 1 rfl) ?_
  refine v_iload hX 4 rfl (atL dAX8_cut_0 2 rfl) ?_
  refine v_iload hX 4 rfl (atL dAX8_cut_0 3 rfl) ?_
  refine v_callV hX (As := [.int (iI (p0)), .int (iI (p3)), .int (iI (p3))]) (rest := []) (c_X8_are (xl X) w σ hk0 p0 hp0 p3 hp3 p3 hp3) lk_X8_240 hk0 (fun _ => rfl) rfl rfl rfl (by rw [hR]; exact ⟨Nat.le_of_ble_eq_true rfl, Nat.le_of_ble_eq_true rfl⟩) ⟨Nat.zero_le _, Nat.zero_le _⟩ rfl (Nat.le_of_ble_eq_true rfl) (atL dAX8_cut_0 4 rfl) (fun r1 s1 g1 => ?_)
  obtain ⟨gs1, ht1, hG1, hA1, hD1⟩ := are_use g1 FG.rf hM.2.1 hM.2.2
  have gd1 : r1 = 0 ∨ r1 = 1 := by rcases gs1 with q | q <;> omega
  show V X _ w _ _ s1 [.int (iI (r1))]
  refine v_if_eq hX ⟨by omega, by omega⟩ (tgt := 54) (atL dAX8_cut_0 5 rfl) (by decide) (fun h9 => ?_) (fun h9 => ?_)
  · refine v_iconst hX (atL dAX8_cut_0 30 rfl) ?_
    exact v_iret hX (atL dAX8_cut_0 31 rfl) (hret _ _ ⟨A, by rw [show s1 10 0 0 = 1 by omega]; unfold f_cut; rw [if_pos (by omega)], hM.same hG1 hA1 hD1, hG1.fc⟩)
  · obtain ⟨sp0, rfl⟩ : ∃ q : Nat, p0 = (q : Int) := ⟨p0.toNat, by omega⟩
    obtain ⟨sp3, rfl⟩ : ∃ q : Nat, p3 = (q : Int) := ⟨p3.toNat, by omega⟩
    obtain ⟨lsp0, hlsp0⟩ : ∃ q, (A.1 sp0).length = q := ⟨_, rfl⟩
    have hqsp0 : lsp0 ≤ 256 := by rw [← hlsp0]; exact hM.1.len (by omega)
    have hbvsp0 : lb (rv (A.1 sp0)) 128 := rv_lb (hM.1.by (by omega)) (hM.1.len (by omega))
    obtain ⟨lsp3, hlsp3⟩ : ∃ q, (A.1 sp3).length = q := ⟨_, rfl⟩
    have hqsp3 : lsp3 ≤ 256 := by rw [← hlsp3]; exact hM.1.len (by omega)
    have hbvsp3 : lb (rv (A.1 sp3)) 128 := rv_lb (hM.1.by (by omega)) (hM.1.len (by omega))
    refine v_aload_n hX 0 rfl (atL dAX8_cut_0 6 rfl) ?_
    refine v_iload_n hX 2 rfl (atL dAX8_cut_0 7 rfl) ?_
    refine v_if_lt hX ⟨by omega, by omega⟩ (tgt := 43) (atL dAX8_cut_0 8 rfl) (by decide) (fun h14 => ?_) (fun h14 => ?_)
    · refine v_iconst hX (atL dAX8_cut_0 25 rfl) ?_
      refine v_goto hX (tgt := 48) (atL dAX8_cut_0 26 rfl) (by decide) ?_
      refine v_callV hX (As := [.int (iI (1))]) (rest := []) (c_X8_bad (xl X) w s1 hk0 1 (by decide)) lk_X8_244 hk0 (fun _ => rfl) rfl rfl rfl (by rw [hR]; exact ⟨Nat.le_of_ble_eq_true rfl, Nat.le_of_ble_eq_true rfl⟩) ⟨Nat.zero_le _, Nat.zero_le _⟩ rfl (Nat.le_of_ble_eq_true rfl) (atL dAX8_cut_0 28 rfl) (fun r2 s2 g2 => ?_)
      obtain ⟨gs2, ht2, hG2, hA2, hD2⟩ := bad_use g2 (by omega) hG1 hA1 hD1
      subst gs2
      show V X _ w _ _ s2 [.int (iI (1))]
      refine v_if_eq hX ⟨by omega, by omega⟩ (tgt := 56) (atL dAX8_cut_0 29 rfl) (by decide) (fun h51 => absurd h51 (by omega)) (fun h51 => ?_)
      refine v_iconst hX (atL dAX8_cut_0 30 rfl) ?_
      exact v_iret hX (atL dAX8_cut_0 31 rfl) (hret _ _ ⟨A, by rw [show s2 10 0 0 = 2 by omega]; unfold f_cut; simp only [Int.toNat_natCast]; rw [if_neg (by omega), if_pos (by rw [hlsp0]; omega)], hM.same hG2 hA2 hD2, hG2.fc⟩)
    · refine v_iload_n hX 3 rfl (atL dAX8_cut_0 9 rfl) ?_
      refine v_if_lt hX ⟨by omega, by omega⟩ (tgt := 43) (atL dAX8_cut_0 10 rfl) (by decide) (fun h18 => ?_) (fun h18 => ?_)
      · refine v_iconst hX (atL dAX8_cut_0 25 rfl) ?_
        refine v_goto hX (tgt := 48) (atL dAX8_cut_0 26 rfl) (by decide) ?_
        refine v_callV hX (As := [.int (iI (1))]) (rest := []) (c_X8_bad (xl X) w s1 hk0 1 (by decide)) lk_X8_244 hk0 (fun _ => rfl) rfl rfl rfl (by rw [hR]; exact ⟨Nat.le_of_ble_eq_true rfl, Nat.le_of_ble_eq_true rfl⟩) ⟨Nat.zero_le _, Nat.zero_le _⟩ rfl (Nat.le_of_ble_eq_true rfl) (atL dAX8_cut_0 28 rfl) (fun r3 s3 g3 => ?_)
        obtain ⟨gs3, ht3, hG3, hA3, hD3⟩ := bad_use g3 (by omega) hG1 hA1 hD1
        subst gs3
        show V X _ w _ _ s3 [.int (iI (1))]
        refine v_if_eq hX ⟨by omega, by omega⟩ (tgt := 56) (atL dAX8_cut_0 29 rfl) (by decide) (fun h51 => absurd h51 (by omega)) (fun h51 => ?_)
        refine v_iconst hX (atL dAX8_cut_0 30 rfl) ?_
        exact v_iret hX (atL dAX8_cut_0 31 rfl) (hret _ _ ⟨A, by rw [show s3 10 0 0 = 2 by omega]; unfold f_cut; simp only [Int.toNat_natCast]; rw [if_neg (by omega), if_pos (by rw [hlsp0]; omega)], hM.same hG3 hA3 hD3, hG3.fc⟩)
      · refine v_iload_n hX 2 rfl (atL dAX8_cut_0 11 rfl) ?_
        refine v_aload_n hX 0 rfl (atL dAX8_cut_0 12 rfl) ?_
        refine gf_X8_71 hX hk0 (atL dAX8_cut_0 13 rfl) ?_
        refine v_iload_n hX 1 rfl (atL dAX8_cut_0 14 rfl) ?_
        refine v_iald hX (r := iI (((lsp0 : Nat) : Int))) sp0 (hQ16 1 (by simp [mn, tp])) (fun _ => rfl) rfl (show sp0 < 24 by omega) (by decide) (congrArg iI (((hM.1.fg hG1).1 sp0 (by omega)).1.1.trans (by rw [hlsp0]))) (atL dAX8_cut_0 15 rfl) ?_
        refine v_icmp_gt hX ⟨by omega, by omega⟩ ⟨by omega, by omega⟩ (tgt := 43) (atL dAX8_cut_0 16 rfl) (by decide) (fun h28 => ?_) (fun h28 => ?_)
        · refine v_iconst hX (atL dAX8_cut_0 25 rfl) ?_
          refine v_goto hX (tgt := 48) (atL dAX8_cut_0 26 rfl) (by decide) ?_
          refine v_callV hX (As := [.int (iI (1))]) (rest := []) (c_X8_bad (xl X) w s1 hk0 1 (by decide)) lk_X8_244 hk0 (fun _ => rfl) rfl rfl rfl (by rw [hR]; exact ⟨Nat.le_of_ble_eq_true rfl, Nat.le_of_ble_eq_true rfl⟩) ⟨Nat.zero_le _, Nat.zero_le _⟩ rfl (Nat.le_of_ble_eq_true rfl) (atL dAX8_cut_0 28 rfl) (fun r4 s4 g4 => ?_)
          obtain ⟨gs4, ht4, hG4, hA4, hD4⟩ := bad_use g4 (by omega) hG1 hA1 hD1
          subst gs4
          show V X _ w _ _ s4 [.int (iI (1))]
          refine v_if_eq hX ⟨by omega, by omega⟩ (tgt := 56) (atL dAX8_cut_0 29 rfl) (by decide) (fun h51 => absurd h51 (by omega)) (fun h51 => ?_)
          refine v_iconst hX (atL dAX8_cut_0 30 rfl) ?_
          exact v_iret hX (atL dAX8_cut_0 31 rfl) (hret _ _ ⟨A, by rw [show s4 10 0 0 = 2 by omega]; unfold f_cut; simp only [Int.toNat_natCast]; rw [if_neg (by omega), if_pos (by rw [hlsp0]; omega)], hM.same hG4 hA4 hD4, hG4.fc⟩)
        · refine v_iload_n hX 3 rfl (atL dAX8_cut_0 17 rfl) ?_
          refine v_aload_n hX 0 rfl (atL dAX8_cut_0 18 rfl) ?_
          refine gf_X8_71 hX hk0 (atL dAX8_cut_0 19 rfl) ?_
          refine v_iload_n hX 1 rfl (atL dAX8_cut_0 20 rfl) ?_
          refine v_iald hX (r := iI (((lsp0 : Nat) : Int))) sp0 (hQ16 1 (by simp [mn, tp])) (fun _ => rfl) rfl (show sp0 < 24 by omega) (by decide) (congrArg iI (((hM.1.fg hG1).1 sp0 (by omega)).1.1.trans (by rw [hlsp0]))) (atL dAX8_cut_0 21 rfl) ?_
          refine v_iload_n hX 2 rfl (atL dAX8_cut_0 22 rfl) ?_
          refine v_isub hX (iI_sub _ _) (atL dAX8_cut_0 23 rfl) ?_
          refine v_icmp_le hX ⟨by omega, by omega⟩ ⟨by omega, by omega⟩ (tgt := 47) (atL dAX8_cut_0 24 rfl) (by decide) (fun h40 => ?_) (fun h40 => ?_)
          · refine v_iconst hX (atL dAX8_cut_0 27 rfl) ?_
            refine v_callV hX (As := [.int (iI (0))]) (rest := []) (c_X8_bad (xl X) w s1 hk0 0 (by decide)) lk_X8_244 hk0 (fun _ => rfl) rfl rfl rfl (by rw [hR]; exact ⟨Nat.le_of_ble_eq_true rfl, Nat.le_of_ble_eq_true rfl⟩) ⟨Nat.zero_le _, Nat.zero_le _⟩ rfl (Nat.le_of_ble_eq_true rfl) (atL dAX8_cut_0 28 rfl) (fun r5 s5 g5 => ?_)
            obtain ⟨gs5, ht5, hG5, hA5, hD5⟩ := bad_use g5 (by omega) hG1 hA1 hD1
            subst gs5
            show V X _ w _ _ s5 [.int (iI (0))]
            refine v_if_eq hX ⟨by omega, by omega⟩ (tgt := 56) (atL dAX8_cut_0 29 rfl) (by decide) (fun h51 => ?_) (fun h51 => absurd h51 (by omega))
            obtain ⟨i1, rfl⟩ : ∃ q : Nat, p1 = (q : Int) := ⟨p1.toNat, by omega⟩
            obtain ⟨i2, rfl⟩ : ∃ q : Nat, p2 = (q : Int) := ⟨p2.toNat, by omega⟩
            refine v_aload_n hX 0 rfl (atL dAX8_cut_0 32 rfl) ?_
            refine v_callV hX (As := []) (rest := []) (c_X8_anew (xl X) w s5 hk0) lk_X8_254 hk0 (fun _ => rfl) rfl rfl rfl (by rw [hR]; exact ⟨Nat.le_of_ble_eq_true rfl, Nat.le_of_ble_eq_true rfl⟩) ⟨Nat.zero_le _, Nat.zero_le _⟩ rfl (Nat.le_of_ble_eq_true rfl) (atL dAX8_cut_0 33 rfl) (fun _ s6 e6 => ?_)
            obtain ⟨hr6, gb6⟩ := anew_use e6
            have hG6 := hG5.fp gb6
            have hA6 := hA5.fp gb6.1 rfl
            have hD6 := hD5.fp gb6
            have ht6 : s6 10 0 0 = 0 := by rw [gb6.2 0 (by decide)]; omega
            have hl6 : ([] : List Nat).length = 0 := rfl
            show V X _ w _ _ s6 []
            refine v_iconst hX (atL dAX8_cut_0 34 rfl) ?_
            refine v_istore hX (lv' := [(5, .int (iI (0))), (0, .ref (w.1 13 0)), (1, .int (iI ((sp0 : Int)))), (2, .int (iI ((i1 : Int)))), (3, .int (iI ((i2 : Int)))), (4, .int (iI ((sp3 : Int))))]) (Nat.le_of_ble_eq_true rfl) rfl (atL dAX8_cut_0 35 rfl) ?_
            have loop : ∀ (d j : Nat) (t : St), j + d = i2 → RO t (((A.1 sp0).drop i1).take j) → FP s6 t → V X (0, 0) w 63 [(5, .int (iI ((j : Int)))), (0, .ref (w.1 13 0)), (1, .int (iI ((sp0 : Int)))), (2, .int (iI ((i1 : Int)))), (3, .int (iI ((i2 : Int)))), (4, .int (iI ((sp3 : Int))))] t [] := by
              intro d
              induction d with
              | zero =>
                intro j t hj hr hf
                have htt : t 10 0 0 = 0 := by rw [hf.2 0 (by decide)]; omega
                obtain rfl : j = i2 := by omega
                refine v_iload hX 0 rfl (atL dAX8_cut_0 36 rfl) ?_
                refine v_iload_n hX 4 rfl (atL dAX8_cut_0 37 rfl) ?_
                refine v_icmp_ge hX ⟨by omega, by omega⟩ ⟨by omega, by omega⟩ (tgt := 94) (atL dAX8_cut_0 38 rfl) (by decide) (fun h66 => ?_) (fun h66 => absurd h66 (by omega))
                refine v_aload_n hX 1 rfl (atL dAX8_cut_0 53 rfl) ?_
                refine v_iload hX 5 rfl (atL dAX8_cut_0 54 rfl) ?_
                refine v_callV hX (As := [.int (iI ((sp3 : Int)))]) (rest := []) (c_X8_writes (xl X) w t hk0 (((A.1 sp0).drop i1).take j) hr (by rw [(by rw [List.length_take, List.length_drop, hlsp0]; omega : (((A.1 sp0).drop i1).take j).length = j)]; omega) sp3 (by omega)) lk_X8_257 hk0 (fun _ => rfl) rfl rfl rfl (by rw [hR]; exact ⟨Nat.le_of_ble_eq_true rfl, Nat.le_of_ble_eq_true rfl⟩) ⟨Nat.zero_le _, Nat.zero_le _⟩ rfl (Nat.le_of_ble_eq_true rfl) (atL dAX8_cut_0 55 rfl) (fun r7 s7 e7 => ?_)
                show V X _ w _ _ s7 [.int (iI (r7))]
                exact v_iret hX (atL dAX8_cut_0 56 rfl) (hret _ _ (wr_post (t := sp3) (M := ((A.1 sp0).drop i1).take j) (by unfold f_cut; simp only [Int.toNat_natCast]; rw [if_neg (by omega), if_neg (by rw [hlsp0]; omega), List.length_take, List.length_drop, hlsp0, show min j (lsp0 - i1) = j by omega]) (hM.1.by (by omega)).drop.take hM (hG6.fp hf) (hA6.fp hf.1 rfl) (hD6.fp hf) (by omega) (by omega) e7))
              | succ d ih =>
                intro j t hj hr hf
                have htt : t 10 0 0 = 0 := by rw [hf.2 0 (by decide)]; omega
                refine v_iload hX 0 rfl (atL dAX8_cut_0 36 rfl) ?_
                refine v_iload_n hX 4 rfl (atL dAX8_cut_0 37 rfl) ?_
                refine v_icmp_ge hX ⟨by omega, by omega⟩ ⟨by omega, by omega⟩ (tgt := 94) (atL dAX8_cut_0 38 rfl) (by decide) (fun h66 => absurd h66 (by omega)) (fun h66 => ?_)
                refine v_aload_n hX 1 rfl (atL dAX8_cut_0 39 rfl) ?_
                refine v_aload_n hX 1 rfl (atL dAX8_cut_0 40 rfl) ?_
                refine gf_X8_67 hX hk0 (atL dAX8_cut_0 41 rfl) ?_
                refine v_sipush hX (by decide +kernel) (atL dAX8_cut_0 42 rfl) ?_
                refine v_iload_n hX 2 rfl (atL dAX8_cut_0 43 rfl) ?_
                refine v_imul hX (iI_mul _ _) (atL dAX8_cut_0 44 rfl) ?_
                refine v_iload_n hX 3 rfl (atL dAX8_cut_0 45 rfl) ?_
                refine v_iadd hX (iI_add _ _) (atL dAX8_cut_0 46 rfl) ?_
                refine v_iload hX 0 rfl (atL dAX8_cut_0 47 rfl) ?_
                refine v_iadd hX (iI_add _ _) (atL dAX8_cut_0 48 rfl) ?_
                refine v_iald hX (r := iI ((((A.1 sp0).getD ((i1 + j)) 0 : Nat) : Int))) ((256 * sp0 + (i1 + j))) (hQ16 0 (by simp [mn, tp])) (fun _ => rfl) (by omega) (show 256 * sp0 + (i1 + j) < 6144 by omega) (by decide) (congrArg iI (((hM.1.fg (hG6.fp hf)).1 sp0 (by omega)).1.2.2 ((i1 + j)) (by rw [hlsp0]; omega))) (atL dAX8_cut_0 49 rfl) ?_
                refine v_callV hX (As := [.int (iI ((((A.1 sp0).getD ((i1 + j)) 0 : Nat) : Int)))]) (rest := []) (c_X8_puts (xl X) w t hk0 (((A.1 sp0).drop i1).take j) hr (by rw [(by rw [List.length_take, List.length_drop, hlsp0]; omega : (((A.1 sp0).drop i1).take j).length = j)]; omega) ((A.1 sp0).getD ((i1 + j)) 0)) lk_X8_251 hk0 (fun _ => rfl) rfl rfl rfl (by rw [hR]; exact ⟨Nat.le_of_ble_eq_true rfl, Nat.le_of_ble_eq_true rfl⟩) ⟨Nat.zero_le _, Nat.zero_le _⟩ rfl (Nat.le_of_ble_eq_true rfl) (atL dAX8_cut_0 50 rfl) (fun _ s8 e8 => ?_)
                obtain ⟨hr8, gb8⟩ := e8
                have hG8 := (hG6.fp hf).fp gb8
                have hA8 := (hA6.fp hf.1 rfl).fp gb8.1 rfl
                have hD8 := (hD6.fp hf).fp gb8
                have ht8 : s8 10 0 0 = 0 := by rw [gb8.2 0 (by decide)]; omega
                have hl8 : (((A.1 sp0).drop i1).take j ++ [(A.1 sp0).getD ((i1 + j)) 0]).length = j + 1 := by rw [List.length_append, (by rw [List.length_take, List.length_drop, hlsp0]; omega : (((A.1 sp0).drop i1).take j).length = j)]; rfl
                show V X _ w _ _ s8 []
                refine v_iinc hX (lv' := [(5, .int (iI (((j : Int)) + 1))), (0, .ref (w.1 13 0)), (1, .int (iI ((sp0 : Int)))), (2, .int (iI ((i1 : Int)))), (3, .int (iI ((i2 : Int)))), (4, .int (iI ((sp3 : Int))))]) 0 rfl (iI_add _ _) (Nat.le_of_ble_eq_true rfl) rfl (atL dAX8_cut_0 51 rfl) ?_
                refine v_goto hX (tgt := 63) (atL dAX8_cut_0 52 rfl) (by decide) ?_
                refine v_sub (lv' := [(5, .int (iI (((j : Int)) + 1))), (0, .ref (w.1 13 0)), (1, .int (iI ((sp0 : Int)))), (2, .int (iI ((i1 : Int)))), (3, .int (iI ((i2 : Int)))), (4, .int (iI ((sp3 : Int))))]) [0, 1, 2, 3, 4, 5] rfl ?_
                rw [show (j : Int) + 1 = ((j + 1 : Nat) : Int) by omega]
                rw [gD_take_succ (by rw [hlsp0]; omega)] at hr8
                exact ih (j + 1) _ (by omega) hr8 (hf.tr gb8)
            refine v_sub (lv' := [(5, .int (iI (0))), (0, .ref (w.1 13 0)), (1, .int (iI ((sp0 : Int)))), (2, .int (iI ((i1 : Int)))), (3, .int (iI ((i2 : Int)))), (4, .int (iI ((sp3 : Int))))]) [0, 1, 2, 3, 4, 5] rfl ?_
            exact loop i2 0 s6 (by omega) (by rw [List.take_zero]; exact hr6) FP.rf
          · refine v_iconst hX (atL dAX8_cut_0 25 rfl) ?_
            refine v_goto hX (tgt := 48) (atL dAX8_cut_0 26 rfl) (by decide) ?_
            refine v_callV hX (As := [.int (iI (1))]) (rest := []) (c_X8_bad (xl X) w s1 hk0 1 (by decide)) lk_X8_244 hk0 (fun _ => rfl) rfl rfl rfl (by rw [hR]; exact ⟨Nat.le_of_ble_eq_true rfl, Nat.le_of_ble_eq_true rfl⟩) ⟨Nat.zero_le _, Nat.zero_le _⟩ rfl (Nat.le_of_ble_eq_true rfl) (atL dAX8_cut_0 28 rfl) (fun r9 s9 g9 => ?_)
            obtain ⟨gs9, ht9, hG9, hA9, hD9⟩ := bad_use g9 (by omega) hG1 hA1 hD1
            subst gs9
            show V X _ w _ _ s9 [.int (iI (1))]
            refine v_if_eq hX ⟨by omega, by omega⟩ (tgt := 56) (atL dAX8_cut_0 29 rfl) (by decide) (fun h51 => absurd h51 (by omega)) (fun h51 => ?_)
            refine v_iconst hX (atL dAX8_cut_0 30 rfl) ?_
            exact v_iret hX (atL dAX8_cut_0 31 rfl) (hret _ _ ⟨A, by rw [show s9 10 0 0 = 2 by omega]; unfold f_cut; simp only [Int.toNat_natCast]; rw [if_neg (by omega), if_pos (by rw [hlsp0]; omega)], hM.same hG9 hA9 hD9, hG9.fc⟩)
