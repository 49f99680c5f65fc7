theorem crs_0 {B C M : List Nat} {n : Nat} (hn : B.length = n) : crs (B ++ C) 0 n M = mix B M ++ C := by
  have := crs_app (A := []) (B := B) (C := C) (M := M) (o := 0) rfl hn
  simpa using this
theorem AW.set0 {s : St} {G : List Nat} {x : Nat} (h : AW (s 13 13) 0 G) (hG : 0 < G.length) : AW (su s 13 13 0 (x : Int) 13 13) 0 (G.set 0 x) := by
  refine AW.of (fun q hq => ?_)
  rw [List.length_set] at hq
  rw [su_e]
  by_cases c : q = 0
  · subst c
    rw [if_pos rfl]
    simp [List.getD, hG]
  · rw [if_neg c, h.get hq]
    simp [List.getD, List.getElem?_set_ne (Ne.symm c)]
theorem kept_app {r : Nat} {L M : List Nat} (hL : 0 < L.length) : (L ++ M).set 0 ((L ++ M).getD 0 0 % 2 ^ (8 - rS r)) = kept r L ++ M := by
  cases L with
  | nil => exact absurd hL (by simp)
  | cons x L => rfl
theorem salt0_get {p s : List Nat} {z q : Nat} : ((List.replicate z 0 ++ [1] ++ s) ++ (p ++ [188])).getD q 0 = if q < z then 0 else if q = z then 1 else if q < z + 1 + s.length then s.getD (q - (z + 1)) 0 else if q < z + 1 + s.length + p.length then p.getD (q - (z + 1 + s.length)) 0 else if q = z + 1 + s.length + p.length then 188 else 0 := by
  simp only [gD_app, gD_one, gD_rep, List.length_append, List.length_cons, List.length_nil, List.length_replicate]
  repeat' split
  all_goals first | rfl | omega | (congr 1; omega) | (exfalso; omega)
theorem kept_by {r : Nat} {L : List Nat} (h : BY L) : BY (kept r L) := BY_set h (pmod (rS r) (rS_lt r) _)

set_option maxHeartbeats 8000000 in
set_option maxRecDepth 100000 in
theorem c_X8_salt [Gh] (l : Launch) (w : Wl) (σ : St) (hk0 : w.2 13 0) (hw19 : ∀ q, w.2 19 q → q < 4096) (A : Ab) (hM : HM σ A) (p0 : Int) (hp0 : rI p0) (p1 : Int) (hp1 : rI p1) (p2 : Int) (hp2 : rI p2) (p3 : Int) (hp3 : rI p3) (p4 : Int) (hp4 : rI p4) : Cz l yX8_salt cX8_salt 12 (Option.some Jvm.ClassFile.FieldType.int) 7 176 (kap σ * 10360) (kap σ * 103600) wI [.ref (w.1 13 0), .int (iI (p0)), .int (iI (p1)), .int (iI (p2)), .int (iI (p3)), .int (iI (p4))] w σ (fun a σ' => ∃ A', f_salt A p0 p1 p2 p3 p4 = (σ' 10 0 0, a, A') ∧ HM σ' A' ∧ FC σ σ') := by
  refine Cz.of (own := RX8) (lv := [(0, .ref (w.1 13 0)), (1, .int (iI (p0))), (2, .int (iI (p1))), (3, .int (iI (p2))), (4, .int (iI (p3))), (5, .int (iI (p4)))]) (by decide +kernel) rfl (Nat.le_of_ble_eq_true rfl) rfl (fun X hX hxl hR hcl hret => ?_)
  subst hxl
  have hQ : ∀ q, (14, q) ∈ mn σ 13 0 → w.2 14 q := fun q h => hcl 13 0 hk0 (14, q) h
  have hQ5 : ∀ q, (14, q) ∈ mn σ 13 0 → w.2 15 q := fun q h => hcl 14 q (hQ q h) (15, q) (by simp [mn, tp])
  have hQ16 : ∀ q, (16, q) ∈ mn σ 13 0 → w.2 16 q := fun q h => hcl 13 0 hk0 (16, q) h
  have hp0a := hp0.1
  have hp0b := hp0.2
  have hp1a := hp1.1
  have hp1b := hp1.2
  have hp2a := hp2.1
  have hp2b := hp2.2
  have hp3a := hp3.1
  have hp3b := hp3.2
  have hp4a := hp4.1
  have hp4b := hp4.2
  refine v_aload_n hX 0 rfl (atL dAX8_salt_0 0 rfl) ?_
  refine v_iload_n hX 3 rfl (atL dAX8_salt_0 1 rfl) ?_
  refine v_iload hX 4 rfl (atL dAX8_salt_0 2 rfl) ?_
  refine v_iload hX 5 rfl (atL dAX8_salt_0 3 rfl) ?_
  refine v_callV hX (As := [.int (iI (p2)), .int (iI (p3)), .int (iI (p4))]) (rest := []) (c_X8_are (xl X) w σ hk0 p2 hp2 p3 hp3 p4 hp4) lk_X8_240 hk0 (fun _ => rfl) rfl rfl rfl (by rw [hR]; exact ⟨Nat.le_of_ble_eq_true rfl, Nat.le_of_ble_eq_true rfl⟩) (by rw [hR]; exact (ZI.z : ZI (kap σ) (0, 0) σ).b) rfl (Nat.le_of_ble_eq_true rfl) (atL dAX8_salt_0 4 rfl) (fun r1 s1 g1 => ?_)
  obtain ⟨gs1, ht1, hG1, hA1, hD1⟩ := are_use g1 FG.rf hM.2.1 hM.2.2
  have gd1 : r1 = 0 ∨ r1 = 1 := by rcases gs1 with q | q <;> omega
  have hz1 := (ZI.z : ZI (kap σ) (0, 0) σ).k (t := s1) (are_4 g1)
  show V X _ w _ _ s1 [.int (iI (r1))]
  refine v_if_eq hX ⟨by omega, by omega⟩ (tgt := 28) (atL dAX8_salt_0 5 rfl) (by decide) (fun h9 => ?_) (fun h9 => ?_)
  · refine v_iconst hX (atL dAX8_salt_0 14 rfl) ?_
    exact v_iret hX (atL dAX8_salt_0 15 rfl) ((hret _ _ ⟨A, by rw [show s1 10 0 0 = 1 by omega]; unfold f_salt; rw [if_pos (by omega)], hM.same hG1 hA1 hD1, hG1.fc⟩ _ hz1))
  · refine v_aload_n hX 0 rfl (atL dAX8_salt_0 6 rfl) ?_
    refine v_iload_n hX 1 rfl (atL dAX8_salt_0 7 rfl) ?_
    refine v_callV hX (As := [.int (iI (p0))]) (rest := []) (c_X8_isKey (xl X) w s1 hk0 p0 hp0 A.2.1 (hM.1.fg hG1).2.2.1 hM.1.2.2.2.1) lk_X8_370 hk0 (fun _ => rfl) rfl rfl rfl (by rw [hR]; exact ⟨Nat.le_of_ble_eq_true rfl, Nat.le_of_ble_eq_true rfl⟩) (by rw [hR]; exact hz1.b) rfl (Nat.le_of_ble_eq_true rfl) (atL dAX8_salt_0 8 rfl) (fun r2 s2 g2 => ?_)
    obtain ⟨gs2, ht2, hG2, hA2, hD2⟩ := iss_use g2 (by omega) hG1 hA1 hD1
    have gd2 : r2 = 0 ∨ r2 = 1 := by rcases gs2 with q | q <;> omega
    have hz2 := hz1.k (t := s2) (iss_4 g2)
    show V X _ w _ _ s2 [.int (iI (r2))]
    refine v_if_eq hX ⟨by omega, by omega⟩ (tgt := 28) (atL dAX8_salt_0 9 rfl) (by decide) (fun h17 => ?_) (fun h17 => ?_)
    · refine v_iconst hX (atL dAX8_salt_0 14 rfl) ?_
      exact v_iret hX (atL dAX8_salt_0 15 rfl) ((hret _ _ ⟨A, by rw [show s2 10 0 0 = 1 by omega]; unfold f_salt; rw [if_pos (by omega)], hM.same hG2 hA2 hD2, hG2.fc⟩ _ hz2))
    · refine v_aload_n hX 0 rfl (atL dAX8_salt_0 10 rfl) ?_
      refine v_iload_n hX 2 rfl (atL dAX8_salt_0 11 rfl) ?_
      refine v_callV hX (As := [.int (iI (p1))]) (rest := []) (c_X8_isHash (xl X) w s2 hk0 p1 hp1) lk_X8_342 hk0 (fun _ => rfl) rfl rfl rfl (by rw [hR]; exact ⟨Nat.le_of_ble_eq_true rfl, Nat.le_of_ble_eq_true rfl⟩) (by rw [hR]; exact hz2.b) rfl (Nat.le_of_ble_eq_true rfl) (atL dAX8_salt_0 12 rfl) (fun r3 s3 g3 => ?_)
      obtain ⟨gs3, ht3, hG3, hA3, hD3⟩ := ish_use g3 (by omega) hG2 hA2 hD2
      have gd3 : r3 = 0 ∨ r3 = 1 := by rcases gs3 with q | q <;> omega
      have hz3 := hz2.k (t := s3) (iss_4 g3)
      show V X _ w _ _ s3 [.int (iI (r3))]
      refine v_if_ne hX ⟨by omega, by omega⟩ (tgt := 30) (atL dAX8_salt_0 13 rfl) (by decide) (fun h25 => ?_) (fun h25 => ?_)
      · obtain ⟨sp2, rfl⟩ : ∃ q : Nat, p2 = (q : Int) := ⟨p2.toNat, by omega⟩
        obtain ⟨sp3, rfl⟩ : ∃ q : Nat, p3 = (q : Int) := ⟨p3.toNat, by omega⟩
        obtain ⟨sp4, rfl⟩ : ∃ q : Nat, p4 = (q : Int) := ⟨p4.toNat, by omega⟩
        obtain ⟨lsp2, hlsp2⟩ : ∃ q, (A.1 sp2).length = q := ⟨_, rfl⟩
        have hqsp2 : lsp2 ≤ 256 := by rw [← hlsp2]; exact hM.1.len (by omega)
        have hbvsp2 : lb (rv (A.1 sp2)) 128 := rv_lb (hM.1.by (by omega)) (hM.1.len (by omega))
        obtain ⟨lsp3, hlsp3⟩ : ∃ q, (A.1 sp3).length = q := ⟨_, rfl⟩
        have hqsp3 : lsp3 ≤ 256 := by rw [← hlsp3]; exact hM.1.len (by omega)
        have hbvsp3 : lb (rv (A.1 sp3)) 128 := rv_lb (hM.1.by (by omega)) (hM.1.len (by omega))
        obtain ⟨lsp4, hlsp4⟩ : ∃ q, (A.1 sp4).length = q := ⟨_, rfl⟩
        have hqsp4 : lsp4 ≤ 256 := by rw [← hlsp4]; exact hM.1.len (by omega)
        have hbvsp4 : lb (rv (A.1 sp4)) 128 := rv_lb (hM.1.by (by omega)) (hM.1.len (by omega))
        obtain ⟨kx, rfl⟩ : ∃ q : Nat, p0 = (q : Int) := ⟨p0.toNat, by omega⟩
        obtain ⟨P, hPe⟩ : ∃ q, A.2.2.1 kx = q := ⟨_, rfl⟩
        obtain ⟨K, hKe⟩ : ∃ q, A.2.2.2 kx = q := ⟨_, rfl⟩
        have hK : KM σ kx P K := by rw [← hPe, ← hKe]; exact hM.1.2.2.2.2 kx (by omega)
        have hk16 := hM.1.2.2.2.1
        have hPP := hK.1
        have hkb : ∀ j, j < P → lb (K j) 64 := fun j hj => by have := (hK.2.2.1 j hj).2.1; exact nby_lb this
        have hK0 := hK.2.2.2
        have hKn := (hK.2.2.1 0 (by omega)).2.1
        have hKn1 := nby_pos hK0
        have hKnb : nby (K 0) = (blen (K 0) + 7) / 8 := rfl
        have hblK := blen_pos hK0
        have hh : isH p1 := by omega
        have hhr : rI p1 := hp1
        have hlg := hl_ge p1
        have hl3 := hl_32 p1
        obtain ⟨rr, hrr⟩ : ∃ q, blen (K 0) - 1 = q := ⟨_, rfl⟩
        obtain ⟨E, hE⟩ : ∃ q, rB rr = q := ⟨_, rfl⟩
        have hE2 : (rr + 7) / 8 = E := hE
        have hrS : rS rr = 8 * E - rr := by unfold rS; rw [hE]
        have hrS8 := rS_lt rr
        have hbK2 : blen (K 0) ≤ 1024 := by have := hKn; unfold nby at this; omega
        refine v_aload_n hX 0 rfl (atL dAX8_salt_0 16 rfl) ?_
        refine gf_X8_122 hX hk0 (atL dAX8_salt_0 17 rfl) ?_
        refine v_iload_n hX 1 rfl (atL dAX8_salt_0 18 rfl) ?_
        obtain ⟨ow, how⟩ : ∃ q : Int, (if P = 8 then 1 else 0) = q := ⟨_, rfl⟩
        have hwo : (ow = 1 ∧ P = 8) ∨ (ow = 0 ∧ P = 2) := by rcases hPP with e | e <;> subst e <;> simp at how <;> omega
        refine v_zald hX (r := iI (ow)) kx (hcl 13 0 hk0 (17, 0) (by simp [mn, tp])) (fun _ => rfl) rfl (show kx < 16 by omega) (by decide) (congrArg iI ((hK.fg hG3).2.1.trans how)) (atL dAX8_salt_0 19 rfl) ?_
        refine v_if_ne hX ⟨by omega, by omega⟩ (tgt := 42) (atL dAX8_salt_0 20 rfl) (by decide) (fun h36 => ?_) (fun h36 => ?_)
        · refine v_aload_n hX 0 rfl (atL dAX8_salt_0 23 rfl) ?_
          refine v_iload_n hX 1 rfl (atL dAX8_salt_0 24 rfl) ?_
          refine v_callV hX (As := [.int (iI ((kx : Int)))]) (rest := []) (c_X8_lengthOf (xl X) w s3 hk0 hA3 kx (by omega) P K (hK.fg hG3)) lk_X8_380 hk0 (fun _ => rfl) rfl rfl rfl (by rw [hR]; exact ⟨Nat.le_of_ble_eq_true rfl, Nat.le_of_ble_eq_true rfl⟩) (by rw [hR]; exact hz3.b) rfl (Nat.le_of_ble_eq_true rfl) (atL dAX8_salt_0 25 rfl) (fun r4 s4 e4 => ?_)
          obtain ⟨ga4, hw4, hf4⟩ := e4
          subst ga4
          have hA4 := hA3.one hf4 hw4
          have hG4 := hG3.fr hf4 rfl (by decide)
          have hD4 := hD3.fr hf4 (by decide) (by decide) (by decide)
          have ht4 : s4 10 0 0 = 0 := by rw [hf4 10 0 (by decide)]; omega
          have hz4 := hz3.k (t := s4) (by rw [hf4 10 0 (by decide)])
          show V X _ w _ _ s4 [.int (iI (((nby (K 0) : Nat) : Int)))]
          refine v_istore hX (lv' := [(6, .int (iI (((nby (K 0) : Nat) : Int)))), (0, .ref (w.1 13 0)), (1, .int (iI ((kx : Int)))), (2, .int (iI (p1))), (3, .int (iI ((sp2 : Int)))), (4, .int (iI ((sp3 : Int)))), (5, .int (iI ((sp4 : Int))))]) (Nat.le_of_ble_eq_true rfl) rfl (atL dAX8_salt_0 26 rfl) ?_
          refine v_iload_n hX 3 rfl (atL dAX8_salt_0 27 rfl) ?_
          refine v_callS hX (As := [.int (iI (p1))]) (rest := []) (c_X8_long0 (xl X) w s4 p1 hhr) lk_X8_351 rfl (by rw [hR]; exact ⟨Nat.le_of_ble_eq_true rfl, Nat.le_of_ble_eq_true rfl⟩) (by rw [hR]; exact hz4.b) rfl (Nat.le_of_ble_eq_true rfl) (atL dAX8_salt_0 28 rfl) (fun r5 z5 g5 => ?_)
          obtain ⟨ga5, gb5⟩ := g5
          rw [gb5]
          subst ga5
          show V X _ w _ _ s4 [.int (iI ((hl p1 : Int)))]
          refine v_istore hX (lv' := [(7, .int (iI ((hl p1 : Int)))), (6, .int (iI (((nby (K 0) : Nat) : Int)))), (0, .ref (w.1 13 0)), (1, .int (iI ((kx : Int)))), (2, .int (iI (p1))), (3, .int (iI ((sp2 : Int)))), (4, .int (iI ((sp3 : Int)))), (5, .int (iI ((sp4 : Int))))]) (Nat.le_of_ble_eq_true rfl) rfl (atL dAX8_salt_0 29 rfl) ?_
          refine v_aload_n hX 2 rfl (atL dAX8_salt_0 30 rfl) ?_
          refine gf_X8_71 hX hk0 (atL dAX8_salt_0 31 rfl) ?_
          refine v_iload hX 6 rfl (atL dAX8_salt_0 32 rfl) ?_
          refine v_iald hX (r := iI (((lsp3 : Nat) : Int))) sp3 (hQ16 1 (by simp [mn, tp])) (fun _ => rfl) rfl (show sp3 < 24 by omega) (by decide) (congrArg iI (((hM.1.fg hG4).1 sp3 (by omega)).1.1.trans (by rw [hlsp3]))) (atL dAX8_salt_0 33 rfl) ?_
          refine v_istore hX (lv' := [(8, .int (iI (((lsp3 : Nat) : Int)))), (7, .int (iI ((hl p1 : Int)))), (6, .int (iI (((nby (K 0) : Nat) : Int)))), (0, .ref (w.1 13 0)), (1, .int (iI ((kx : Int)))), (2, .int (iI (p1))), (3, .int (iI ((sp2 : Int)))), (4, .int (iI ((sp3 : Int)))), (5, .int (iI ((sp4 : Int))))]) (Nat.le_of_ble_eq_true rfl) rfl (atL dAX8_salt_0 34 rfl) ?_
          refine v_aload_n hX 3 rfl (atL dAX8_salt_0 35 rfl) ?_
          refine gf_X8_126 hX hk0 (atL dAX8_salt_0 36 rfl) ?_
          refine v_callN hX (As := []) (rest := []) (c_X7_bits (xl X) w s4 23 (K 0) (hQ 23 (by simp [mn, tp])) hw4) lk_X8_167 (hQ 23 (by simp [mn, tp])) (fun _ => rfl) rfl rfl rfl (by rw [hR]; exact ⟨Nat.le_of_ble_eq_true rfl, Nat.le_of_ble_eq_true rfl⟩) (by rw [hR]; exact hz4.b) rfl (Nat.le_of_ble_eq_true rfl) (atL dAX8_salt_0 37 rfl) (fun r6 z6 g6 => ?_)
          obtain ⟨ga6, gb6⟩ := g6
          rw [gb6]
          subst ga6
          have hbl6 : blen (K 0) ≤ 4320 := blen_le (NN.le hw4)
          have hby6 : nby (K 0) = (blen (K 0) + 7) / 8 := rfl
          show V X _ w _ _ s4 [.int (iI (((blen (K 0) : Nat) : Int)))]
          refine v_iconst hX (atL dAX8_salt_0 38 rfl) ?_
          refine v_isub hX (iI_sub _ _) (atL dAX8_salt_0 39 rfl) ?_
          rw [show ((((blen (K 0) : Nat) : Int)) - 1) = (rr : Int) from (by omega)]
          refine v_istore hX (lv' := [(9, .int (iI ((rr : Int)))), (8, .int (iI (((lsp3 : Nat) : Int)))), (7, .int (iI ((hl p1 : Int)))), (6, .int (iI (((nby (K 0) : Nat) : Int)))), (0, .ref (w.1 13 0)), (1, .int (iI ((kx : Int)))), (2, .int (iI (p1))), (3, .int (iI ((sp2 : Int)))), (4, .int (iI ((sp3 : Int)))), (5, .int (iI ((sp4 : Int))))]) (Nat.le_of_ble_eq_true rfl) rfl (atL dAX8_salt_0 40 rfl) ?_
          refine v_iload hX 0 rfl (atL dAX8_salt_0 41 rfl) ?_
          refine v_bipush hX (by decide +kernel) (atL dAX8_salt_0 42 rfl) ?_
          refine v_iadd hX (iI_add _ _) (atL dAX8_salt_0 43 rfl) ?_
          refine v_bipush hX (by decide +kernel) (atL dAX8_salt_0 44 rfl) ?_
          refine v_idiv hX (fun e0 => absurd ((iI_eq (b := 0) ⟨by omega, by omega⟩ ⟨by omega, by omega⟩).mp e0) (by omega)) (iI_div (by omega) (by omega) (by omega) (by omega)) (atL dAX8_salt_0 45 rfl) ?_
          rw [show ((((rr : Int)) + 7) / 8) = (E : Int) from (by omega)]
          refine v_istore hX (lv' := [(10, .int (iI ((E : Int)))), (9, .int (iI ((rr : Int)))), (8, .int (iI (((lsp3 : Nat) : Int)))), (7, .int (iI ((hl p1 : Int)))), (6, .int (iI (((nby (K 0) : Nat) : Int)))), (0, .ref (w.1 13 0)), (1, .int (iI ((kx : Int)))), (2, .int (iI (p1))), (3, .int (iI ((sp2 : Int)))), (4, .int (iI ((sp3 : Int)))), (5, .int (iI ((sp4 : Int))))]) (Nat.le_of_ble_eq_true rfl) rfl (atL dAX8_salt_0 46 rfl) ?_
          refine v_iload hX 0 rfl (atL dAX8_salt_0 47 rfl) ?_
          refine v_iload hX 3 rfl (atL dAX8_salt_0 48 rfl) ?_
          refine v_iload hX 2 rfl (atL dAX8_salt_0 49 rfl) ?_
          refine v_iadd hX (iI_add _ _) (atL dAX8_salt_0 50 rfl) ?_
          refine v_iconst hX (atL dAX8_salt_0 51 rfl) ?_
          refine v_iadd hX (iI_add _ _) (atL dAX8_salt_0 52 rfl) ?_
          refine v_icmp_ge hX ⟨by omega, by omega⟩ ⟨by omega, by omega⟩ (tgt := 100) (atL dAX8_salt_0 53 rfl) (by decide) (fun h94 => ?_) (fun h94 => ?_)
          · refine v_aload_n hX 5 rfl (atL dAX8_salt_0 56 rfl) ?_
            refine v_iload_n hX 7 rfl (atL dAX8_salt_0 57 rfl) ?_
            refine v_iload_n hX 8 rfl (atL dAX8_salt_0 58 rfl) ?_
            refine v_aload_n hX 5 rfl (atL dAX8_salt_0 59 rfl) ?_
            refine gf_X8_67 hX hk0 (atL dAX8_salt_1 0 rfl) ?_
            refine v_sipush hX (by decide +kernel) (atL dAX8_salt_1 1 rfl) ?_
            refine v_iload hX 9 rfl (atL dAX8_salt_1 2 rfl) ?_
            refine v_imul hX (iI_mul _ _) (atL dAX8_salt_1 3 rfl) ?_
            rw [show (256 * ((sp3 : Int))) = ((256 * sp3 : Nat) : Int) from (by omega)]
            refine v_iload hX 2 rfl (atL dAX8_salt_1 4 rfl) ?_
            refine v_callVM hX (As := [.int (iI (p1)), .int (iI ((sp2 : Int))), .ref (w.1 16 0), .int (iI (((256 * sp3 : Nat) : Int))), .int (iI (((lsp3 : Nat) : Int)))]) (rest := []) (c_X8_salts (xl X) w s4 hk0 hw19 A (hM.same hG4 hA4 hD4) (by omega) p1 hh sp2 (by omega) 0 (hQ16 0 (by simp [mn, tp])) (by decide) (A.1 sp3) ((256 * sp3)) lsp3 hlsp3 ((hM.1.fg hG4).1 sp3 (by omega)).1.2.2 (by show _ ≤ 6144; omega) (by omega)) lk_X8_408 hk0 (fun _ => rfl) rfl rfl rfl (by rw [hR]; exact ⟨Nat.le_of_ble_eq_true rfl, Nat.le_of_ble_eq_true rfl⟩) (by rw [hR]; exact hz4) rfl (Nat.le_of_ble_eq_true rfl) (atL dAX8_salt_1 5 rfl) (fun _ s7 e7 => ?_)
            obtain ⟨hpd7, h137, hg7, hA7, hD7, hc47, ht7⟩ := e7
            have hG7 := hG4.tr hg7
            have hz7 := hz4.d4 hc47
            generalize (((0, 0) : Nat × Nat).1 + kap s4 * 10360, ((0, 0) : Nat × Nat).2 + kap s4 * 103600) = z7 at hz7 ⊢
            show V X _ w _ _ s7 []
            refine v_iconst hX (atL dAX8_salt_1 6 rfl) ?_
            refine v_istore hX (lv' := [(11, .int (iI (0))), (10, .int (iI ((E : Int)))), (9, .int (iI ((rr : Int)))), (8, .int (iI (((lsp3 : Nat) : Int)))), (7, .int (iI ((hl p1 : Int)))), (6, .int (iI (((nby (K 0) : Nat) : Int)))), (0, .ref (w.1 13 0)), (1, .int (iI ((kx : Int)))), (2, .int (iI (p1))), (3, .int (iI ((sp2 : Int)))), (4, .int (iI ((sp3 : Int)))), (5, .int (iI ((sp4 : Int))))]) (Nat.le_of_ble_eq_true rfl) rfl (atL dAX8_salt_1 7 rfl) ?_
            have loop8 : ∀ (d j : Nat) (t8 : St), j + d = E → t8 13 13 = cp (s7 13 13) 0 j (fun _ => 0) → Fr [(13, 13)] s7 t8 → V X z7 w 121 [(11, .int (iI ((j : Int)))), (10, .int (iI ((E : Int)))), (9, .int (iI ((rr : Int)))), (8, .int (iI (((lsp3 : Nat) : Int)))), (7, .int (iI ((hl p1 : Int)))), (6, .int (iI (((nby (K 0) : Nat) : Int)))), (0, .ref (w.1 13 0)), (1, .int (iI ((kx : Int)))), (2, .int (iI (p1))), (3, .int (iI ((sp2 : Int)))), (4, .int (iI ((sp3 : Int)))), (5, .int (iI ((sp4 : Int))))] t8 [] := by
              intro d
              induction d with
              | zero =>
                intro j t8 hj hc8 hf8
                have hjN : j = E := by omega
                subst j
                have hA8 := hA7.fp hf8 rfl
                have hG8 := hG7.fr hf8 rfl (by decide)
                have hD8 := hD7.fr hf8 (by decide) (by decide) (by decide)
                have ht8 : t8 10 0 0 = 0 := by rw [hf8 10 0 (by decide)]; omega
                have hal8_5 : AW (t8 13 5) 0 (prf p1 (A.1 sp2) (A.1 sp3)) := by rw [hf8 13 5 (by decide)]; exact hpd7
                have hc48 : t8 10 0 4 = 1 := Eq.trans (by rw [hf8 10 0 (by decide)]) hc47
                have hz8 := hz7.k (t := t8) (by rw [hf8 10 0 (by decide)])
                refine v_iload hX 0 rfl (atL dAX8_salt_1 8 rfl) ?_
                refine v_iload hX 1 rfl (atL dAX8_salt_1 9 rfl) ?_
                refine v_icmp_ge hX ⟨by omega, by omega⟩ ⟨by omega, by omega⟩ (tgt := 142) (atL dAX8_salt_1 10 rfl) (by decide) (fun h125 => ?_) (fun h125 => absurd h125 (by omega))
                refine v_aload_n hX 6 rfl (atL dAX8_salt_1 18 rfl) ?_
                refine gf_X8_147 hX hk0 (atL dAX8_salt_1 19 rfl) ?_
                refine v_iload hX 1 rfl (atL dAX8_salt_1 20 rfl) ?_
                refine v_iload hX 4 rfl (atL dAX8_salt_1 21 rfl) ?_
                refine v_isub hX (iI_sub _ _) (atL dAX8_salt_1 22 rfl) ?_
                refine v_iload hX 3 rfl (atL dAX8_salt_1 23 rfl) ?_
                refine v_isub hX (iI_sub _ _) (atL dAX8_salt_1 24 rfl) ?_
                refine v_iconst hX (atL dAX8_salt_1 25 rfl) ?_
                refine v_isub hX (iI_sub _ _) (atL dAX8_salt_1 26 rfl) ?_
                refine v_iconst hX (atL dAX8_salt_1 27 rfl) ?_
                refine v_iast hX (c := 13) ((E - hl p1 - lsp3 - 2)) (hQ16 13 (by simp [mn, tp])) (by decide) (fun _ _ => rfl) (by omega) (show E - hl p1 - lsp3 - 2 < 600 by omega) (by decide) (atL dAX8_salt_1 28 rfl) ?_
                refine v_iconst hX (atL dAX8_salt_1 29 rfl) ?_
                refine v_istore hX (lv' := [(11, .int (iI (0))), (10, .int (iI ((E : Int)))), (9, .int (iI ((rr : Int)))), (8, .int (iI (((lsp3 : Nat) : Int)))), (7, .int (iI ((hl p1 : Int)))), (6, .int (iI (((nby (K 0) : Nat) : Int)))), (0, .ref (w.1 13 0)), (1, .int (iI ((kx : Int)))), (2, .int (iI (p1))), (3, .int (iI ((sp2 : Int)))), (4, .int (iI ((sp3 : Int)))), (5, .int (iI ((sp4 : Int))))]) (Nat.le_of_ble_eq_true rfl) rfl (atL dAX8_salt_1 30 rfl) ?_
                obtain ⟨b9, hb9⟩ : ∃ q, q = (su t8 13 13 ((E - hl p1 - lsp3 - 2)) 1) := ⟨_, rfl⟩
                rw [← hb9]
                have hA9 : AN b9 := by rw [hb9]; exact (hA8.s1 (by decide))
                have hG9 : FG σ b9 := by rw [hb9]; exact (hG8.sa rfl)
                have hD9 : DG b9 := by rw [hb9]; exact (hD8.sa (by decide) (by decide))
                have ht9 : b9 10 0 0 = 0 := by rw [hb9, su_c (by decide)]; omega
                have hal9_5 : AW (b9 13 5) 0 (prf p1 (A.1 sp2) (A.1 sp3)) := by rw [hb9, su_ri (by decide)]; exact hal8_5
                have hc49 : b9 10 0 4 = 1 := Eq.trans (by rw [hb9, su_c (by decide)]) hc48
                have hz9 := hz8.k (t := b9) (by rw [hb9, su_c (by decide)])
                have loop10 : ∀ (d j : Nat) (t10 : St), j + d = lsp3 → t10 13 13 = cp (b9 13 13) (E - hl p1 - 1 - lsp3) j (fun q => (((A.1 sp3).getD q 0 : Nat) : Int)) → Fr [(13, 13)] b9 t10 → V X z7 w 161 [(11, .int (iI ((j : Int)))), (10, .int (iI ((E : Int)))), (9, .int (iI ((rr : Int)))), (8, .int (iI (((lsp3 : Nat) : Int)))), (7, .int (iI ((hl p1 : Int)))), (6, .int (iI (((nby (K 0) : Nat) : Int)))), (0, .ref (w.1 13 0)), (1, .int (iI ((kx : Int)))), (2, .int (iI (p1))), (3, .int (iI ((sp2 : Int)))), (4, .int (iI ((sp3 : Int)))), (5, .int (iI ((sp4 : Int))))] t10 [] := by
                  intro d
                  induction d with
                  | zero =>
                    intro j t10 hj hc10 hf10
                    have hjN : j = lsp3 := by omega
                    subst j
                    have hA10 := hA9.fp hf10 rfl
                    have hG10 := hG9.fr hf10 rfl (by decide)
                    have hD10 := hD9.fr hf10 (by decide) (by decide) (by decide)
                    have ht10 : t10 10 0 0 = 0 := by rw [hf10 10 0 (by decide)]; omega
                    have hal10_5 : AW (t10 13 5) 0 (prf p1 (A.1 sp2) (A.1 sp3)) := by rw [hf10 13 5 (by decide)]; exact hal9_5
                    have hc410 : t10 10 0 4 = 1 := Eq.trans (by rw [hf10 10 0 (by decide)]) hc49
                    have hz10 := hz9.k (t := t10) (by rw [hf10 10 0 (by decide)])
                    refine v_iload hX 0 rfl (atL dAX8_salt_1 31 rfl) ?_
                    refine v_iload hX 3 rfl (atL dAX8_salt_1 32 rfl) ?_
                    refine v_icmp_ge hX ⟨by omega, by omega⟩ ⟨by omega, by omega⟩ (tgt := 206) (atL dAX8_salt_1 33 rfl) (by decide) (fun h165 => ?_) (fun h165 => absurd h165 (by omega))
                    refine v_iconst hX (atL dAX8_salt_1 56 rfl) ?_
                    refine v_istore hX (lv' := [(11, .int (iI (0))), (10, .int (iI ((E : Int)))), (9, .int (iI ((rr : Int)))), (8, .int (iI (((lsp3 : Nat) : Int)))), (7, .int (iI ((hl p1 : Int)))), (6, .int (iI (((nby (K 0) : Nat) : Int)))), (0, .ref (w.1 13 0)), (1, .int (iI ((kx : Int)))), (2, .int (iI (p1))), (3, .int (iI ((sp2 : Int)))), (4, .int (iI ((sp3 : Int)))), (5, .int (iI ((sp4 : Int))))]) (Nat.le_of_ble_eq_true rfl) rfl (atL dAX8_salt_1 57 rfl) ?_
                    have loop11 : ∀ (d j : Nat) (t11 : St), j + d = hl p1 → t11 13 13 = cp (t10 13 13) (E - hl p1 - 1) j (fun q => (((prf p1 (A.1 sp2) (A.1 sp3)).getD q 0 : Nat) : Int)) → Fr [(13, 13)] t10 t11 → V X z7 w 209 [(11, .int (iI ((j : Int)))), (10, .int (iI ((E : Int)))), (9, .int (iI ((rr : Int)))), (8, .int (iI (((lsp3 : Nat) : Int)))), (7, .int (iI ((hl p1 : Int)))), (6, .int (iI (((nby (K 0) : Nat) : Int)))), (0, .ref (w.1 13 0)), (1, .int (iI ((kx : Int)))), (2, .int (iI (p1))), (3, .int (iI ((sp2 : Int)))), (4, .int (iI ((sp3 : Int)))), (5, .int (iI ((sp4 : Int))))] t11 [] := by
                      intro d
                      induction d with
                      | zero =>
                        intro j t11 hj hc11 hf11
                        have hjN : j = hl p1 := by omega
                        subst j
                        have hA11 := hA10.fp hf11 rfl
                        have hG11 := hG10.fr hf11 rfl (by decide)
                        have hD11 := hD10.fr hf11 (by decide) (by decide) (by decide)
                        have ht11 : t11 10 0 0 = 0 := by rw [hf11 10 0 (by decide)]; omega
                        have hal11_5 : AW (t11 13 5) 0 (prf p1 (A.1 sp2) (A.1 sp3)) := by rw [hf11 13 5 (by decide)]; exact hal10_5
                        have hc411 : t11 10 0 4 = 1 := Eq.trans (by rw [hf11 10 0 (by decide)]) hc410
                        have hz11 := hz10.k (t := t11) (by rw [hf11 10 0 (by decide)])
                        refine v_iload hX 0 rfl (atL dAX8_salt_1 58 rfl) ?_
                        refine v_iload hX 4 rfl (atL dAX8_salt_1 59 rfl) ?_
                        refine v_icmp_ge hX ⟨by omega, by omega⟩ ⟨by omega, by omega⟩ (tgt := 244) (atL dAX8_salt_2 0 rfl) (by decide) (fun h213 => ?_) (fun h213 => absurd h213 (by omega))
                        refine v_aload_n hX 6 rfl (atL dAX8_salt_2 17 rfl) ?_
                        refine gf_X8_147 hX hk0 (atL dAX8_salt_2 18 rfl) ?_
                        refine v_iload hX 1 rfl (atL dAX8_salt_2 19 rfl) ?_
                        refine v_iconst hX (atL dAX8_salt_2 20 rfl) ?_
                        refine v_isub hX (iI_sub _ _) (atL dAX8_salt_2 21 rfl) ?_
                        refine v_sipush hX (by decide +kernel) (atL dAX8_salt_2 22 rfl) ?_
                        refine v_iast hX (c := 13) ((E - 1)) (hQ16 13 (by simp [mn, tp])) (by decide) (fun _ _ => rfl) (by omega) (show E - 1 < 600 by omega) (by decide) (atL dAX8_salt_2 23 rfl) ?_
                        obtain ⟨b12, hb12⟩ : ∃ q, q = (su t11 13 13 ((E - 1)) 188) := ⟨_, rfl⟩
                        rw [← hb12]
                        have hA12 : AN b12 := by rw [hb12]; exact (hA11.s1 (by decide))
                        have hG12 : FG σ b12 := by rw [hb12]; exact (hG11.sa rfl)
                        have hD12 : DG b12 := by rw [hb12]; exact (hD11.sa (by decide) (by decide))
                        have ht12 : b12 10 0 0 = 0 := by rw [hb12, su_c (by decide)]; omega
                        have hal12_5 : AW (b12 13 5) 0 (prf p1 (A.1 sp2) (A.1 sp3)) := by rw [hb12, su_ri (by decide)]; exact hal11_5
                        have hc412 : b12 10 0 4 = 1 := Eq.trans (by rw [hb12, su_c (by decide)]) hc411
                        have hz12 := hz11.k (t := b12) (by rw [hb12, su_c (by decide)])
                        have hF0l : ((List.replicate (E - hl p1 - 1 - 1 - (A.1 sp3).length) 0 ++ [1] ++ A.1 sp3) ++ (prf p1 (A.1 sp2) (A.1 sp3) ++ [188])).length = E := by simp only [List.length_append, List.length_cons, List.length_nil, List.length_replicate, prf_len, hlsp3]; omega
                        have hF0b : BY ((List.replicate (E - hl p1 - 1 - 1 - (A.1 sp3).length) 0 ++ [1] ++ A.1 sp3) ++ (prf p1 (A.1 sp2) (A.1 sp3) ++ [188])) := (((BY.rep (by omega)).app (BY.one (by omega))).app (hM.1.by (by omega))).app (BY.app sha_lt (BY.one (by omega)))
                        have hD0l : (List.replicate (E - hl p1 - 1 - 1 - (A.1 sp3).length) 0 ++ [1] ++ A.1 sp3).length = E - hl p1 - 1 := by simp only [List.length_append, List.length_cons, List.length_nil, List.length_replicate, hlsp3]; omega
                        have hfin : AW (b12 13 13) 0 ((List.replicate (E - hl p1 - 1 - 1 - (A.1 sp3).length) 0 ++ [1] ++ A.1 sp3) ++ (prf p1 (A.1 sp2) (A.1 sp3) ++ [188])) := by
                          refine AW.of (fun q hq => ?_)
                          rw [hF0l] at hq
                          rw [salt0_get, prf_len, hlsp3]
                          simp only [hb12, su_e, hc11, cp, hc10, hb9, hc8]
                          repeat' split
                          all_goals first | rfl | omega | (congr 2; omega) | (congr 3; omega) | (exfalso; omega)
                        refine v_aload_n hX 6 rfl (atL dAX8_salt_2 24 rfl) ?_
                        refine v_iload_n hX 8 rfl (atL dAX8_salt_2 25 rfl) ?_
                        refine v_aload_n hX 6 rfl (atL dAX8_salt_2 26 rfl) ?_
                        refine gf_X8_147 hX hk0 (atL dAX8_salt_2 27 rfl) ?_
                        refine v_iload hX 1 rfl (atL dAX8_salt_2 28 rfl) ?_
                        refine v_iload hX 4 rfl (atL dAX8_salt_2 29 rfl) ?_
                        refine v_isub hX (iI_sub _ _) (atL dAX8_salt_2 30 rfl) ?_
                        refine v_iconst hX (atL dAX8_salt_2 31 rfl) ?_
                        refine v_isub hX (iI_sub _ _) (atL dAX8_salt_2 32 rfl) ?_
                        rw [show ((((E : Int)) - ((hl p1 : Int))) - 1) = ((E - hl p1 - 1 : Nat) : Int) from (by omega)]
                        refine v_iload hX 4 rfl (atL dAX8_salt_2 33 rfl) ?_
                        refine v_iload hX 1 rfl (atL dAX8_salt_2 34 rfl) ?_
                        refine v_iload hX 4 rfl (atL dAX8_salt_2 35 rfl) ?_
                        refine v_isub hX (iI_sub _ _) (atL dAX8_salt_2 36 rfl) ?_
                        refine v_iconst hX (atL dAX8_salt_2 37 rfl) ?_
                        refine v_isub hX (iI_sub _ _) (atL dAX8_salt_2 38 rfl) ?_
                        rw [show ((((E : Int)) - ((hl p1 : Int))) - 1) = ((E - hl p1 - 1 : Nat) : Int) from (by omega)]
                        refine v_callVM hX (As := [.int (iI (p1)), .ref (w.1 16 13), .int (iI (((E - hl p1 - 1 : Nat) : Int))), .int (iI ((hl p1 : Int))), .int (iI (((E - hl p1 - 1 : Nat) : Int)))]) (rest := []) (c_X8_masks (xl X) w b12 hk0 hw19 hD12 p1 hh 13 (hQ16 13 (by simp [mn, tp])) (by decide) (prf p1 (A.1 sp2) (A.1 sp3)) ((E - hl p1 - 1)) (hl p1) (prf_len : (prf p1 (A.1 sp2) (A.1 sp3)).length = hl p1) (by have h9 := (hfin).app.2.app.1; rw [hD0l, Nat.zero_add] at h9; exact h9) (by show _ ≤ 600; omega) (by omega) (E - hl p1 - 1) (by omega)) lk_X8_354 hk0 (fun _ => rfl) rfl rfl rfl (by rw [hR]; exact ⟨Nat.le_of_ble_eq_true rfl, Nat.le_of_ble_eq_true rfl⟩) (by rw [hR]; exact hz12) rfl (Nat.le_of_ble_eq_true rfl) (atL dAX8_salt_2 39 rfl) (fun _ s13 e13 => ?_)
                        obtain ⟨hm13, hD13, hck13, hg13⟩ := e13
                        have hz13 := hz12.d (hck13.resolve_left (by omega))
                        generalize (z7.1 + kap b12 * 10360, z7.2 + kap b12 * 103600) = z13 at hz13 ⊢
                        have hal13_13 : AW (s13 13 13) 0 ((List.replicate (E - hl p1 - 1 - 1 - (A.1 sp3).length) 0 ++ [1] ++ A.1 sp3) ++ (prf p1 (A.1 sp2) (A.1 sp3) ++ [188])) := by rw [hg13.1 13 13 (by decide)]; exact hfin
                        have hG13 := FMk.fg hG12 hg13
                        have hA13 := hA12.fp hg13.1 rfl
                        have ht13 : s13 10 0 0 = 0 := by rw [hg13.2 0 (by decide) (by decide)]; omega
                        show V X _ w _ _ s13 []
                        refine v_aload_n hX 6 rfl (atL dAX8_salt_2 40 rfl) ?_
                        refine v_iconst hX (atL dAX8_salt_2 41 rfl) ?_
                        refine v_iload hX 1 rfl (atL dAX8_salt_2 42 rfl) ?_
                        refine v_iload hX 4 rfl (atL dAX8_salt_2 43 rfl) ?_
                        refine v_isub hX (iI_sub _ _) (atL dAX8_salt_2 44 rfl) ?_
                        refine v_iconst hX (atL dAX8_salt_2 45 rfl) ?_
                        refine v_isub hX (iI_sub _ _) (atL dAX8_salt_2 46 rfl) ?_
                        rw [show ((((E : Int)) - ((hl p1 : Int))) - 1) = ((E - hl p1 - 1 : Nat) : Int) from (by omega)]
                        refine v_callV hX (As := [.int (iI (0)), .int (iI (((E - hl p1 - 1 : Nat) : Int)))]) (rest := []) (c_X8_crosses (xl X) w s13 hk0 ((List.replicate (E - hl p1 - 1 - 1 - (A.1 sp3).length) 0 ++ [1] ++ A.1 sp3) ++ (prf p1 (A.1 sp2) (A.1 sp3) ++ [188])) (msk p1 (prf p1 (A.1 sp2) (A.1 sp3)) (E - hl p1 - 1)) hal13_13 hF0b hm13 (msk_by : BY (msk p1 (prf p1 (A.1 sp2) (A.1 sp3)) (E - hl p1 - 1))) 0 (E - hl p1 - 1) (by rw [hF0l]; omega) (by rw [(msk_len : (msk p1 (prf p1 (A.1 sp2) (A.1 sp3)) (E - hl p1 - 1)).length = E - hl p1 - 1)]; omega) (by rw [hF0l]; omega) (by rw [(msk_len : (msk p1 (prf p1 (A.1 sp2) (A.1 sp3)) (E - hl p1 - 1)).length = E - hl p1 - 1)]; omega)) lk_X8_383 hk0 (fun _ => rfl) rfl rfl rfl (by rw [hR]; exact ⟨Nat.le_of_ble_eq_true rfl, Nat.le_of_ble_eq_true rfl⟩) (by rw [hR]; exact hz13.b) rfl (Nat.le_of_ble_eq_true rfl) (atL dAX8_salt_2 47 rfl) (fun _ s14 e14 => ?_)
                        obtain ⟨hcr14, hf14⟩ := e14
                        have hcl14 : (crs ((List.replicate (E - hl p1 - 1 - 1 - (A.1 sp3).length) 0 ++ [1] ++ A.1 sp3) ++ (prf p1 (A.1 sp2) (A.1 sp3) ++ [188])) 0 (E - hl p1 - 1) (msk p1 (prf p1 (A.1 sp2) (A.1 sp3)) (E - hl p1 - 1))).length = E := by rw [crs_len (by rw [hF0l]; omega), hF0l]
                        have hA14 := hA13.fp hf14 rfl
                        have hG14 := hG13.fr hf14 rfl (by decide)
                        have hD14 := hD13.fr hf14 (by decide) (by decide) (by decide)
                        have ht14 : s14 10 0 0 = 0 := by rw [hf14 10 0 (by decide)]; omega
                        have hal14_10 : AW (s14 13 10) 0 (msk p1 (prf p1 (A.1 sp2) (A.1 sp3)) (E - hl p1 - 1)) := by rw [hf14 13 10 (by decide)]; exact hm13
                        have hc414 : s14 10 0 4 = 1 := Eq.trans (by rw [hf14 10 0 (by decide)]) (hck13.resolve_left (by omega)).1
                        have hz14 := hz13.k (t := s14) (by rw [hf14 10 0 (by decide)])
                        show V X _ w _ _ s14 []
                        have hcA := crs_0 (B := List.replicate (E - hl p1 - 1 - 1 - (A.1 sp3).length) 0 ++ [1] ++ A.1 sp3) (C := prf p1 (A.1 sp2) (A.1 sp3) ++ [188]) (M := msk p1 (prf p1 (A.1 sp2) (A.1 sp3)) (E - hl p1 - 1)) hD0l
                        have hAW1 := hcr14
                        have hl91 := hcl14
                        have hb91 : BY (crs ((List.replicate (E - hl p1 - 1 - 1 - (A.1 sp3).length) 0 ++ [1] ++ A.1 sp3) ++ (prf p1 (A.1 sp2) (A.1 sp3) ++ [188])) 0 (E - hl p1 - 1) (msk p1 (prf p1 (A.1 sp2) (A.1 sp3)) (E - hl p1 - 1))) := (crs_by hF0b (msk_by : BY (msk p1 (prf p1 (A.1 sp2) (A.1 sp3)) (E - hl p1 - 1))))
                        rw [hcA] at hAW1 hl91 hb91
                        have hml : (mix (List.replicate (E - hl p1 - 1 - 1 - (A.1 sp3).length) 0 ++ [1] ++ A.1 sp3) (msk p1 (prf p1 (A.1 sp2) (A.1 sp3)) (E - hl p1 - 1))).length = E - hl p1 - 1 := by rw [mix_len, hD0l]
                        obtain ⟨x0, hx0⟩ : ∃ q, (mix (List.replicate (E - hl p1 - 1 - 1 - (A.1 sp3).length) 0 ++ [1] ++ A.1 sp3) (msk p1 (prf p1 (A.1 sp2) (A.1 sp3)) (E - hl p1 - 1)) ++ (prf p1 (A.1 sp2) (A.1 sp3) ++ [188])).getD 0 0 = q := ⟨_, rfl⟩
                        have hx0l : x0 < 256 := by rw [← hx0]; exact hb91.get 0
                        have hp0 := hAW1.get (j := 0) (by rw [hl91]; omega)
                        rw [hx0] at hp0
                        refine v_aload_n hX 6 rfl (atL dAX8_salt_2 48 rfl) ?_
                        refine gf_X8_147 hX hk0 (atL dAX8_salt_2 49 rfl) ?_
                        refine v_iconst hX (atL dAX8_salt_2 50 rfl) ?_
                        refine v_dup2 hX rfl rfl (atL dAX8_salt_2 51 rfl) ?_
                        refine v_iald hX (r := iI (((x0 : Nat) : Int))) 0 (hQ16 13 (by simp [mn, tp])) (fun _ => rfl) rfl (show 0 < 600 by omega) (by decide) (congrArg iI hp0) (atL dAX8_salt_2 52 rfl) ?_
                        refine v_sipush hX (by decide +kernel) (atL dAX8_salt_2 53 rfl) ?_
                        refine v_bipush hX (by decide +kernel) (atL dAX8_salt_2 54 rfl) ?_
                        refine v_iload hX 1 rfl (atL dAX8_salt_2 55 rfl) ?_
                        refine v_imul hX (iI_mul _ _) (atL dAX8_salt_2 56 rfl) ?_
                        refine v_iload hX 2 rfl (atL dAX8_salt_2 57 rfl) ?_
                        refine v_isub hX (iI_sub _ _) (atL dAX8_salt_2 58 rfl) ?_
                        rw [show ((8 * ((E : Int))) - ((rr : Int))) = ((rS rr : Nat) : Int) from (by omega)]
                        refine v_ishr hX (r := iI (((255 / 2 ^ rS rr : Nat) : Int))) (kshr (rS rr) hrS8) (atL dAX8_salt_2 59 rfl) ?_
                        refine v_iand hX (r := iI (((x0 % 2 ^ (8 - rS rr) : Nat) : Int))) (kand (rS rr) hrS8 x0 hx0l) (atL dAX8_salt_3 0 rfl) ?_
                        refine v_iast hX (c := 13) 0 (hQ16 13 (by simp [mn, tp])) (by decide) (fun _ _ => rfl) rfl (show 0 < 600 by omega) (by decide) (atL dAX8_salt_3 1 rfl) ?_
                        obtain ⟨b15, hb15⟩ : ∃ q, q = (su s14 13 13 0 (((x0 % 2 ^ (8 - rS rr) : Nat) : Int))) := ⟨_, rfl⟩
                        rw [← hb15]
                        have hA15 : AN b15 := by rw [hb15]; exact (hA14.s1 (by decide))
                        have hG15 : FG σ b15 := by rw [hb15]; exact (hG14.sa rfl)
                        have hD15 : DG b15 := by rw [hb15]; exact (hD14.sa (by decide) (by decide))
                        have ht15 : b15 10 0 0 = 0 := by rw [hb15, su_c (by decide)]; omega
                        have hal15_10 : AW (b15 13 10) 0 (msk p1 (prf p1 (A.1 sp2) (A.1 sp3)) (E - hl p1 - 1)) := by rw [hb15, su_ri (by decide)]; exact hal14_10
                        have hc415 : b15 10 0 4 = 1 := Eq.trans (by rw [hb15, su_c (by decide)]) hc414
                        have hz15 := hz14.k (t := b15) (by rw [hb15, su_c (by decide)])
                        have hSLe : (mix (List.replicate (E - hl p1 - 1 - 1 - (A.1 sp3).length) 0 ++ [1] ++ A.1 sp3) (msk p1 (prf p1 (A.1 sp2) (A.1 sp3)) (E - hl p1 - 1)) ++ (prf p1 (A.1 sp2) (A.1 sp3) ++ [188])).set 0 (x0 % 2 ^ (8 - rS rr)) = saltL p1 rr (A.1 sp2) (A.1 sp3) := by rw [← hx0, kept_app (by omega)]; unfold saltL saltD; rw [hE]; exact (List.append_assoc _ _ _).symm
                        have hAW2 : AW (b15 13 13) 0 (saltL p1 rr (A.1 sp2) (A.1 sp3)) := by rw [hb15, ← hSLe]; exact AW.set0 hAW1 (by rw [hl91]; omega)
                        have hl92 : (saltL p1 rr (A.1 sp2) (A.1 sp3)).length = E := by rw [← hSLe, List.length_set]; exact hl91
                        have hb92 : BY (saltL p1 rr (A.1 sp2) (A.1 sp3)) := by rw [← hSLe]; exact BY_set hb91 (pmod (rS rr) hrS8 _)
                        refine v_aload_n hX 6 rfl (atL dAX8_salt_3 2 rfl) ?_
                        refine v_iload_n hX 7 rfl (atL dAX8_salt_3 3 rfl) ?_
                        refine v_iconst hX (atL dAX8_salt_3 4 rfl) ?_
                        refine v_iload hX 1 rfl (atL dAX8_salt_3 5 rfl) ?_
                        refine v_iload hX 11 rfl (atL dAX8_salt_3 6 rfl) ?_
                        have hM1q := (hM.same hG15 hA15 hD15).up1 hc415
                        refine v_callV hX (As := [.int (iI ((kx : Int))), .int (iI (2)), .int (iI ((E : Int))), .int (iI ((sp4 : Int)))]) (rest := []) (letI : Gh := gh1; c_X8_padded (xl X) w b15 hk0 A hM1q (by omega) kx (by omega) P K (hK.fg hG15) 1 (by omega) (saltL p1 rr (A.1 sp2) (A.1 sp3)) E hl92 hAW2 hb92 (by omega) sp4 (by omega)) lk_X8_387 hk0 (fun _ => rfl) rfl rfl rfl (by rw [hR]; exact ⟨Nat.le_of_ble_eq_true rfl, Nat.le_of_ble_eq_true rfl⟩) (by rw [hR]; exact hz15.b) rfl (Nat.le_of_ble_eq_true rfl) (atL dAX8_salt_3 7 rfl) (fun r16 s16 e16 => ?_)
                        show V X _ w _ _ s16 [.int (iI (r16))]
                        exact v_iret hX (atL dAX8_salt_3 8 rfl) ((hret _ _ (by obtain ⟨e1, e2, e3, e4⟩ := e16; exact ⟨_, by rw [e2, e1]; unfold f_salt; simp only [Int.toNat_natCast, hPe, hKe, hrr, hE]; rw [if_neg (by omega), if_neg (by omega), if_neg (by omega), if_neg (by rw [hlsp3]; omega)], e3.dn, hG15.fc.tr e4⟩) _ (hz15.k (by obtain ⟨e1, e2, e3, e4⟩ := e16; exact e3.c1.trans hc415.symm))))
                      | succ d ih =>
                        intro j t11 hj hc11 hf11
                        have hsj : t11 13 5 j = (((prf p1 (A.1 sp2) (A.1 sp3)).getD j 0 : Nat) : Int) := by rw [hf11 13 5 (by decide)]; exact hal10_5.get (by rw [prf_len]; omega)
                        refine v_iload hX 0 rfl (atL dAX8_salt_1 58 rfl) ?_
                        refine v_iload hX 4 rfl (atL dAX8_salt_1 59 rfl) ?_
                        refine v_icmp_ge hX ⟨by omega, by omega⟩ ⟨by omega, by omega⟩ (tgt := 244) (atL dAX8_salt_2 0 rfl) (by decide) (fun h213 => absurd h213 (by omega)) (fun h213 => ?_)
                        refine v_aload_n hX 6 rfl (atL dAX8_salt_2 1 rfl) ?_
                        refine gf_X8_147 hX hk0 (atL dAX8_salt_2 2 rfl) ?_
                        refine v_iload hX 1 rfl (atL dAX8_salt_2 3 rfl) ?_
                        refine v_iload hX 4 rfl (atL dAX8_salt_2 4 rfl) ?_
                        refine v_isub hX (iI_sub _ _) (atL dAX8_salt_2 5 rfl) ?_
                        refine v_iconst hX (atL dAX8_salt_2 6 rfl) ?_
                        refine v_isub hX (iI_sub _ _) (atL dAX8_salt_2 7 rfl) ?_
                        refine v_iload hX 0 rfl (atL dAX8_salt_2 8 rfl) ?_
                        refine v_iadd hX (iI_add _ _) (atL dAX8_salt_2 9 rfl) ?_
                        refine v_aload_n hX 6 rfl (atL dAX8_salt_2 10 rfl) ?_
                        refine gf_X8_98 hX hk0 (atL dAX8_salt_2 11 rfl) ?_
                        refine v_iload hX 0 rfl (atL dAX8_salt_2 12 rfl) ?_
                        refine v_iald hX (r := iI ((((prf p1 (A.1 sp2) (A.1 sp3)).getD j 0 : Nat) : Int))) j (hQ16 5 (by simp [mn, tp])) (fun _ => rfl) rfl (show j < 32 by omega) (by decide) (congrArg iI hsj) (atL dAX8_salt_2 13 rfl) ?_
                        refine v_iast hX (c := 13) ((E - hl p1 - 1 + j)) (hQ16 13 (by simp [mn, tp])) (by decide) (fun _ _ => rfl) (by omega) (show E - hl p1 - 1 + j < 600 by omega) (by decide) (atL dAX8_salt_2 14 rfl) ?_
                        refine v_iinc hX (lv' := [(11, .int (iI (((j : Int)) + 1))), (10, .int (iI ((E : Int)))), (9, .int (iI ((rr : Int)))), (8, .int (iI (((lsp3 : Nat) : Int)))), (7, .int (iI ((hl p1 : Int)))), (6, .int (iI (((nby (K 0) : Nat) : Int)))), (0, .ref (w.1 13 0)), (1, .int (iI ((kx : Int)))), (2, .int (iI (p1))), (3, .int (iI ((sp2 : Int)))), (4, .int (iI ((sp3 : Int)))), (5, .int (iI ((sp4 : Int))))]) 0 rfl (iI_add _ _) (Nat.le_of_ble_eq_true rfl) rfl (atL dAX8_salt_2 15 rfl) ?_
                        refine v_goto hX (tgt := 209) (atL dAX8_salt_2 16 rfl) (by decide) ?_
                        refine v_sub (lv' := [(11, .int (iI (((j : Int)) + 1))), (10, .int (iI ((E : Int)))), (9, .int (iI ((rr : Int)))), (8, .int (iI (((lsp3 : Nat) : Int)))), (7, .int (iI ((hl p1 : Int)))), (6, .int (iI (((nby (K 0) : Nat) : Int)))), (0, .ref (w.1 13 0)), (1, .int (iI ((kx : Int)))), (2, .int (iI (p1))), (3, .int (iI ((sp2 : Int)))), (4, .int (iI ((sp3 : Int)))), (5, .int (iI ((sp4 : Int))))]) [0, 1, 2, 3, 4, 5, 6, 7, 8, 9, 10, 11] rfl ?_
                        rw [show (j : Int) + 1 = ((j + 1 : Nat) : Int) by omega]
                        exact ih (j + 1) _ (by omega) (cp_s hc11 rfl) (hf11.tr' (Fr.su (by simp)))
                    refine v_sub (lv' := [(11, .int (iI (0))), (10, .int (iI ((E : Int)))), (9, .int (iI ((rr : Int)))), (8, .int (iI (((lsp3 : Nat) : Int)))), (7, .int (iI ((hl p1 : Int)))), (6, .int (iI (((nby (K 0) : Nat) : Int)))), (0, .ref (w.1 13 0)), (1, .int (iI ((kx : Int)))), (2, .int (iI (p1))), (3, .int (iI ((sp2 : Int)))), (4, .int (iI ((sp3 : Int)))), (5, .int (iI ((sp4 : Int))))]) [0, 1, 2, 3, 4, 5, 6, 7, 8, 9, 10, 11] rfl ?_
                    exact loop11 (hl p1) 0 t10 (by omega) cp_0.symm Fr.rf
                  | succ d ih =>
                    intro j t10 hj hc10 hf10
                    have hsj : t10 13 0 (256 * sp3 + j) = (((A.1 sp3).getD j 0 : Nat) : Int) := by rw [hf10 13 0 (by decide)]; exact ((hM.1.fg hG9).1 sp3 (by omega)).1.2.2 j (by rw [hlsp3]; omega)
                    refine v_iload hX 0 rfl (atL dAX8_salt_1 31 rfl) ?_
                    refine v_iload hX 3 rfl (atL dAX8_salt_1 32 rfl) ?_
                    refine v_icmp_ge hX ⟨by omega, by omega⟩ ⟨by omega, by omega⟩ (tgt := 206) (atL dAX8_salt_1 33 rfl) (by decide) (fun h165 => absurd h165 (by omega)) (fun h165 => ?_)
                    refine v_aload_n hX 6 rfl (atL dAX8_salt_1 34 rfl) ?_
                    refine gf_X8_147 hX hk0 (atL dAX8_salt_1 35 rfl) ?_
                    refine v_iload hX 1 rfl (atL dAX8_salt_1 36 rfl) ?_
                    refine v_iload hX 4 rfl (atL dAX8_salt_1 37 rfl) ?_
                    refine v_isub hX (iI_sub _ _) (atL dAX8_salt_1 38 rfl) ?_
                    refine v_iconst hX (atL dAX8_salt_1 39 rfl) ?_
                    refine v_isub hX (iI_sub _ _) (atL dAX8_salt_1 40 rfl) ?_
                    refine v_iload hX 3 rfl (atL dAX8_salt_1 41 rfl) ?_
                    refine v_isub hX (iI_sub _ _) (atL dAX8_salt_1 42 rfl) ?_
                    refine v_iload hX 0 rfl (atL dAX8_salt_1 43 rfl) ?_
                    refine v_iadd hX (iI_add _ _) (atL dAX8_salt_1 44 rfl) ?_
                    refine v_aload_n hX 6 rfl (atL dAX8_salt_1 45 rfl) ?_
                    refine gf_X8_67 hX hk0 (atL dAX8_salt_1 46 rfl) ?_
                    refine v_sipush hX (by decide +kernel) (atL dAX8_salt_1 47 rfl) ?_
                    refine v_iload hX 10 rfl (atL dAX8_salt_1 48 rfl) ?_
                    refine v_imul hX (iI_mul _ _) (atL dAX8_salt_1 49 rfl) ?_
                    refine v_iload hX 0 rfl (atL dAX8_salt_1 50 rfl) ?_
                    refine v_iadd hX (iI_add _ _) (atL dAX8_salt_1 51 rfl) ?_
                    refine v_iald hX (r := iI ((((A.1 sp3).getD j 0 : Nat) : Int))) ((256 * sp3 + j)) (hQ16 0 (by simp [mn, tp])) (fun _ => rfl) (by omega) (show 256 * sp3 + j < 6144 by omega) (by decide) (congrArg iI hsj) (atL dAX8_salt_1 52 rfl) ?_
                    refine v_iast hX (c := 13) ((E - hl p1 - 1 - lsp3 + j)) (hQ16 13 (by simp [mn, tp])) (by decide) (fun _ _ => rfl) (by omega) (show E - hl p1 - 1 - lsp3 + j < 600 by omega) (by decide) (atL dAX8_salt_1 53 rfl) ?_
                    refine v_iinc hX (lv' := [(11, .int (iI (((j : Int)) + 1))), (10, .int (iI ((E : Int)))), (9, .int (iI ((rr : Int)))), (8, .int (iI (((lsp3 : Nat) : Int)))), (7, .int (iI ((hl p1 : Int)))), (6, .int (iI (((nby (K 0) : Nat) : Int)))), (0, .ref (w.1 13 0)), (1, .int (iI ((kx : Int)))), (2, .int (iI (p1))), (3, .int (iI ((sp2 : Int)))), (4, .int (iI ((sp3 : Int)))), (5, .int (iI ((sp4 : Int))))]) 0 rfl (iI_add _ _) (Nat.le_of_ble_eq_true rfl) rfl (atL dAX8_salt_1 54 rfl) ?_
                    refine v_goto hX (tgt := 161) (atL dAX8_salt_1 55 rfl) (by decide) ?_
                    refine v_sub (lv' := [(11, .int (iI (((j : Int)) + 1))), (10, .int (iI ((E : Int)))), (9, .int (iI ((rr : Int)))), (8, .int (iI (((lsp3 : Nat) : Int)))), (7, .int (iI ((hl p1 : Int)))), (6, .int (iI (((nby (K 0) : Nat) : Int)))), (0, .ref (w.1 13 0)), (1, .int (iI ((kx : Int)))), (2, .int (iI (p1))), (3, .int (iI ((sp2 : Int)))), (4, .int (iI ((sp3 : Int)))), (5, .int (iI ((sp4 : Int))))]) [0, 1, 2, 3, 4, 5, 6, 7, 8, 9, 10, 11] rfl ?_
                    rw [show (j : Int) + 1 = ((j + 1 : Nat) : Int) by omega]
                    exact ih (j + 1) _ (by omega) (cp_s hc10 rfl) (hf10.tr' (Fr.su (by simp)))
                refine v_sub (lv' := [(11, .int (iI (0))), (10, .int (iI ((E : Int)))), (9, .int (iI ((rr : Int)))), (8, .int (iI (((lsp3 : Nat) : Int)))), (7, .int (iI ((hl p1 : Int)))), (6, .int (iI (((nby (K 0) : Nat) : Int)))), (0, .ref (w.1 13 0)), (1, .int (iI ((kx : Int)))), (2, .int (iI (p1))), (3, .int (iI ((sp2 : Int)))), (4, .int (iI ((sp3 : Int)))), (5, .int (iI ((sp4 : Int))))]) [0, 1, 2, 3, 4, 5, 6, 7, 8, 9, 10, 11] rfl ?_
                exact loop10 (lsp3) 0 b9 (by omega) cp_0.symm Fr.rf
              | succ d ih =>
                intro j t8 hj hc8 hf8
                refine v_iload hX 0 rfl (atL dAX8_salt_1 8 rfl) ?_
                refine v_iload hX 1 rfl (atL dAX8_salt_1 9 rfl) ?_
                refine v_icmp_ge hX ⟨by omega, by omega⟩ ⟨by omega, by omega⟩ (tgt := 142) (atL dAX8_salt_1 10 rfl) (by decide) (fun h125 => absurd h125 (by omega)) (fun h125 => ?_)
                refine v_aload_n hX 6 rfl (atL dAX8_salt_1 11 rfl) ?_
                refine gf_X8_147 hX hk0 (atL dAX8_salt_1 12 rfl) ?_
                refine v_iload hX 0 rfl (atL dAX8_salt_1 13 rfl) ?_
                refine v_iconst hX (atL dAX8_salt_1 14 rfl) ?_
                refine v_iast hX (c := 13) ((0 + j)) (hQ16 13 (by simp [mn, tp])) (by decide) (fun _ _ => rfl) (by omega) (show 0 + j < 600 by omega) (by decide) (atL dAX8_salt_1 15 rfl) ?_
                refine v_iinc hX (lv' := [(11, .int (iI (((j : Int)) + 1))), (10, .int (iI ((E : Int)))), (9, .int (iI ((rr : Int)))), (8, .int (iI (((lsp3 : Nat) : Int)))), (7, .int (iI ((hl p1 : Int)))), (6, .int (iI (((nby (K 0) : Nat) : Int)))), (0, .ref (w.1 13 0)), (1, .int (iI ((kx : Int)))), (2, .int (iI (p1))), (3, .int (iI ((sp2 : Int)))), (4, .int (iI ((sp3 : Int)))), (5, .int (iI ((sp4 : Int))))]) 0 rfl (iI_add _ _) (Nat.le_of_ble_eq_true rfl) rfl (atL dAX8_salt_1 16 rfl) ?_
                refine v_goto hX (tgt := 121) (atL dAX8_salt_1 17 rfl) (by decide) ?_
                refine v_sub (lv' := [(11, .int (iI (((j : Int)) + 1))), (10, .int (iI ((E : Int)))), (9, .int (iI ((rr : Int)))), (8, .int (iI (((lsp3 : Nat) : Int)))), (7, .int (iI ((hl p1 : Int)))), (6, .int (iI (((nby (K 0) : Nat) : Int)))), (0, .ref (w.1 13 0)), (1, .int (iI ((kx : Int)))), (2, .int (iI (p1))), (3, .int (iI ((sp2 : Int)))), (4, .int (iI ((sp3 : Int)))), (5, .int (iI ((sp4 : Int))))]) [0, 1, 2, 3, 4, 5, 6, 7, 8, 9, 10, 11] rfl ?_
                rw [show (j : Int) + 1 = ((j + 1 : Nat) : Int) by omega]
                exact ih (j + 1) _ (by omega) (cp_s hc8 rfl) (hf8.tr' (Fr.su (by simp)))
            refine v_sub (lv' := [(11, .int (iI (0))), (10, .int (iI ((E : Int)))), (9, .int (iI ((rr : Int)))), (8, .int (iI (((lsp3 : Nat) : Int)))), (7, .int (iI ((hl p1 : Int)))), (6, .int (iI (((nby (K 0) : Nat) : Int)))), (0, .ref (w.1 13 0)), (1, .int (iI ((kx : Int)))), (2, .int (iI (p1))), (3, .int (iI ((sp2 : Int)))), (4, .int (iI ((sp3 : Int)))), (5, .int (iI ((sp4 : Int))))]) [0, 1, 2, 3, 4, 5, 6, 7, 8, 9, 10, 11] rfl ?_
            exact loop8 (E) 0 s7 (by omega) cp_0.symm Fr.rf
          · refine v_bipush hX (by decide +kernel) (atL dAX8_salt_0 54 rfl) ?_
            exact v_iret hX (atL dAX8_salt_0 55 rfl) ((hret _ _ ⟨A, by rw [show s4 10 0 0 = 0 by omega]; unfold f_salt; simp only [Int.toNat_natCast, hPe, hKe, hrr, hE]; rw [if_neg (by omega), if_neg (by omega), if_neg (by omega), if_pos (by rw [hlsp3]; omega)], hM.same hG4 hA4 hD4, hG4.fc⟩ _ hz4))
        · refine v_bipush hX (by decide +kernel) (atL dAX8_salt_0 21 rfl) ?_
          exact v_iret hX (atL dAX8_salt_0 22 rfl) ((hret _ _ ⟨A, by rw [show s3 10 0 0 = 0 by omega]; unfold f_salt; simp only [Int.toNat_natCast, hPe, hKe]; rw [if_neg (by omega), if_neg (by omega), if_pos (by omega)], hM.same hG3 hA3 hD3, hG3.fc⟩ _ hz3))
      · refine v_iconst hX (atL dAX8_salt_0 14 rfl) ?_
        exact v_iret hX (atL dAX8_salt_0 15 rfl) ((hret _ _ ⟨A, by rw [show s3 10 0 0 = 2 by omega]; unfold f_salt; rw [if_neg (by omega), if_pos (by omega)], hM.same hG3 hA3 hD3, hG3.fc⟩ _ hz3))
